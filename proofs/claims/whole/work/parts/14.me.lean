def P_X8_letterOf  (r : Int32) : Option Value → mm_W → Prop := fun rv w => rv = some (.int r) ∧ w = []
def X8_letterOf_J34 (fu : Nat)    (s0 : Int32) : Option (Int32) := some (((s0 - s0 / (10 : Int32) * (10 : Int32)) - (1 : Int32)))
set_option maxHeartbeats 4000000 in
set_option maxRecDepth 100000 in
theorem s_X8_letterOf_J34 {fu : Nat} {r : Int32} {s0 : Int32} (h : X8_letterOf_J34 fu s0 = some r) : mm_Wp mX8_letterOf (mm_R (P_X8_letterOf r)) 0 0 34 [] [.int s0] [] := by
  rw [X8_letterOf_J34] at h
  refine mm_istore_n dX8_letterOf_34 rfl (by decide) (l' := [(3, .int s0)]) rfl (pc' := 35) rfl ?_
  refine mm_iload_n 0 dX8_letterOf_35 rfl rfl (pc' := 36) rfl ?_
  refine mm_bipush dX8_letterOf_36 kb_10 (pc' := 38) rfl ?_
  refine mm_irem dX8_letterOf_38 (by decide) (pc' := 39) rfl ?_
  refine mm_iconst dX8_letterOf_39 ki_1 (pc' := 40) rfl ?_
  refine mm_isub dX8_letterOf_40 (pc' := 41) rfl ?_
  have h9 := Option.some.inj h
  subst h9
  exact mm_iret rfl dX8_letterOf_41 ⟨rfl, rfl⟩
def f_X8_letterOf (fu : Nat) (v0 : Int32) (v1 : Int32) : Option (Int32) := (f_X8_longOf fu v0).bind fun t1 => if ((t1 - (1 : Int32)) - v1) = (2 : Int32) then (X8_letterOf_J34 fu (v0 / (100 : Int32))) else (if ((t1 - (1 : Int32)) - v1) = (1 : Int32) then (X8_letterOf_J34 fu (v0 / (10 : Int32))) else (X8_letterOf_J34 fu v0))
set_option maxHeartbeats 4000000 in
set_option maxRecDepth 100000 in
theorem ok_X8_letterOf {fu : Nat} {r : Int32} {v0 : Int32} {v1 : Int32} (h : f_X8_letterOf fu v0 v1 = some r) : mm_Ok mX8_letterOf [.int v0, .int v1] [] (P_X8_letterOf r) := by
  rw [f_X8_letterOf] at h
  refine mm_Ok.of pn_X8 (l := [(0, .int v0), (1, .int v1)]) rfl (Nat.le_of_ble_eq_true rfl) ?_
  refine mm_iload_n 0 dX8_letterOf_0 rfl rfl (pc' := 1) rfl ?_
  obtain ⟨t1, h1, h⟩ := mm_bd h
  refine mm_callS (As := [.int v0]) (rest := []) (av := [.int v0]) (wc := []) (is := []) cS_X8_195 (ok_X8_longOf h1) ⟨rfl, rfl, Nat.le_of_ble_eq_true rfl, Nat.le_of_ble_eq_true rfl⟩ dX8_letterOf_1 rfl rfl rfl ⟨rfl, by decide, by decide⟩ (by rintro _ _ ⟨-, rfl⟩; rfl) (Nat.le_of_ble_eq_true rfl) ⟨Nat.le_of_ble_eq_true rfl, Nat.le_of_ble_eq_true rfl⟩ (pc' := 4) rfl ?_
  rintro rv w ⟨rfl, rfl⟩
  show mm_Wp _ _ _ _ 4 [(0, .int v0), (1, .int v1)] [.int t1] []
  clear h1
  refine mm_iconst dX8_letterOf_4 ki_1 (pc' := 5) rfl ?_
  refine mm_isub dX8_letterOf_5 (pc' := 6) rfl ?_
  refine mm_iload_n 1 dX8_letterOf_6 rfl rfl (pc' := 7) rfl ?_
  refine mm_isub dX8_letterOf_7 (pc' := 8) rfl ?_
  refine mm_istore_n dX8_letterOf_8 rfl (by decide) (l' := [(2, .int ((t1 - (1 : Int32)) - v1)), (0, .int v0), (1, .int v1)]) rfl (pc' := 9) rfl ?_
  refine mm_iload_n 0 dX8_letterOf_9 rfl rfl (pc' := 10) rfl ?_
  refine mm_iconst dX8_letterOf_10 ki_2 (pc' := 11) rfl ?_
  refine mm_icmp_ne (tgt := 21) dX8_letterOf_11 (by decide) (pc' := 14) rfl (fun c => ?_) (fun c => ?_)
  · replace h := mm_if h c
    clear c
    refine mm_iload_n 0 dX8_letterOf_21 rfl rfl (pc' := 22) rfl ?_
    refine mm_iconst dX8_letterOf_22 ki_1 (pc' := 23) rfl ?_
    refine mm_icmp_ne (tgt := 33) dX8_letterOf_23 (by decide) (pc' := 26) rfl (fun c => ?_) (fun c => ?_)
    · replace h := mm_if h c
      clear c
      refine mm_iload_n 1 dX8_letterOf_33 rfl rfl (pc' := 34) rfl ?_
      exact mm_sub [] rfl (s_X8_letterOf_J34  h)
    · replace h := mm_it h c
      clear c
      refine mm_iload_n 1 dX8_letterOf_26 rfl rfl (pc' := 27) rfl ?_
      refine mm_bipush dX8_letterOf_27 kb_10 (pc' := 29) rfl ?_
      refine mm_idiv dX8_letterOf_29 (by decide) (pc' := 30) rfl ?_
      refine mm_goto (tgt := 34) dX8_letterOf_30 (by decide) ?_
      exact mm_sub [] rfl (s_X8_letterOf_J34  h)
  · replace h := mm_it h c
    clear c
    refine mm_iload_n 1 dX8_letterOf_14 rfl rfl (pc' := 15) rfl ?_
    refine mm_bipush dX8_letterOf_15 kb_100 (pc' := 17) rfl ?_
    refine mm_idiv dX8_letterOf_17 (by decide) (pc' := 18) rfl ?_
    refine mm_goto (tgt := 34) dX8_letterOf_18 (by decide) ?_
    exact mm_sub [] rfl (s_X8_letterOf_J34  h)

def P_X8_priceOf (q_textSize : Int32) (q_cursor : Int32) (q_start : Int32) (q_token : Int32) (q_number : Int32) (q_word : Int64) (q_fault : Int32) (q_line : Int32) (q_foundPains : Int32) (q_foundLine : Int32) (q_deadMany : Int32) (q_deadSize : Int32) (q_deadLeast : Int32) (q_deadMost : Int32) (q_st : Nat → Int32) (q_before : Nat → Int32) (q_kept : Nat → Int32) (q_isKept : Nat → Int32) (q_refused : Nat → Int32) (q_text : Nat → Int32) (q_ones : Nat → Int32) (q_said : Nat → Int32) (q_readTable : Nat → Int32) (q_least : Nat → Int32) (q_made : Nat → Int32) (q_enough : Nat → Int32) (q_isWanted : Nat → Int32) (q_column : Nat → Int32) (q_foundColumn : Nat → Int32) (q_walls : Nat → Int64) (q_wallMany : Nat → Int32) (q_chosen : Nat → Int32) (r : Int32) : Option Value → mm_W → Prop := fun rv w => rv = some (.int r) ∧ w = (W_X8 q_textSize q_cursor q_start q_token q_number q_word q_fault q_line q_foundPains q_foundLine q_deadMany q_deadSize q_deadLeast q_deadMost q_st q_before q_kept q_isKept q_refused q_text q_ones q_said q_readTable q_least q_made q_enough q_isWanted q_column q_foundColumn q_walls q_wallMany q_chosen)
def X8_priceOf_J64 (fu : Nat) (rec17 : Int32 → Int32 → Option (Int32)) (q_st : Nat → Int32) (v1 : Int32) (v2 : Int32) (v3 : Int32) (v5 : Int32) (v6 : Int32) (v7 : Int32)  : Option (Int32) := rec17 v6 (v7 + (1 : Int32))
set_option maxHeartbeats 4000000 in
set_option maxRecDepth 100000 in
theorem s_X8_priceOf_J64 {fu : Nat} {q_textSize : Int32} {q_cursor : Int32} {q_start : Int32} {q_token : Int32} {q_number : Int32} {q_word : Int64} {q_fault : Int32} {q_line : Int32} {q_foundPains : Int32} {q_foundLine : Int32} {q_deadMany : Int32} {q_deadSize : Int32} {q_deadLeast : Int32} {q_deadMost : Int32} {q_st : Nat → Int32} {q_before : Nat → Int32} {q_kept : Nat → Int32} {q_isKept : Nat → Int32} {q_refused : Nat → Int32} {q_text : Nat → Int32} {q_ones : Nat → Int32} {q_said : Nat → Int32} {q_readTable : Nat → Int32} {q_least : Nat → Int32} {q_made : Nat → Int32} {q_enough : Nat → Int32} {q_isWanted : Nat → Int32} {q_column : Nat → Int32} {q_foundColumn : Nat → Int32} {q_walls : Nat → Int64} {q_wallMany : Nat → Int32} {q_chosen : Nat → Int32} {r : Int32} {rec17 : Int32 → Int32 → Option (Int32)} {v1 : Int32} {v2 : Int32} {v3 : Int32} {v5 : Int32} {v6 : Int32} {v7 : Int32} (hr17 : ∀ (y6 : Int32) (y7 : Int32), rec17 y6 y7 = some r → mm_Wp mX8_priceOf (mm_R (P_X8_priceOf q_textSize q_cursor q_start q_token q_number q_word q_fault q_line q_foundPains q_foundLine q_deadMany q_deadSize q_deadLeast q_deadMost q_st q_before q_kept q_isKept q_refused q_text q_ones q_said q_readTable q_least q_made q_enough q_isWanted q_column q_foundColumn q_walls q_wallMany q_chosen r)) 0 0 17 [(0, .ref 0), (1, .int v1), (2, .int v2), (3, .int v3), (5, .int v5), (6, .int y6), (7, .int y7)] [] (W_X8 q_textSize q_cursor q_start q_token q_number q_word q_fault q_line q_foundPains q_foundLine q_deadMany q_deadSize q_deadLeast q_deadMost q_st q_before q_kept q_isKept q_refused q_text q_ones q_said q_readTable q_least q_made q_enough q_isWanted q_column q_foundColumn q_walls q_wallMany q_chosen)) (h : X8_priceOf_J64 fu rec17 q_st v1 v2 v3 v5 v6 v7 = some r) : mm_Wp mX8_priceOf (mm_R (P_X8_priceOf q_textSize q_cursor q_start q_token q_number q_word q_fault q_line q_foundPains q_foundLine q_deadMany q_deadSize q_deadLeast q_deadMost q_st q_before q_kept q_isKept q_refused q_text q_ones q_said q_readTable q_least q_made q_enough q_isWanted q_column q_foundColumn q_walls q_wallMany q_chosen r)) 0 0 64 [(0, .ref 0), (1, .int v1), (2, .int v2), (3, .int v3), (5, .int v5), (6, .int v6), (7, .int v7)] [] (W_X8 q_textSize q_cursor q_start q_token q_number q_word q_fault q_line q_foundPains q_foundLine q_deadMany q_deadSize q_deadLeast q_deadMost q_st q_before q_kept q_isKept q_refused q_text q_ones q_said q_readTable q_least q_made q_enough q_isWanted q_column q_foundColumn q_walls q_wallMany q_chosen) := by
  rw [X8_priceOf_J64] at h
  refine mm_iinc 6 dX8_priceOf_64 rfl ki_1 (by decide) (l' := [(7, .int (v7 + (1 : Int32))), (0, .ref 0), (1, .int v1), (2, .int v2), (3, .int v3), (5, .int v5), (6, .int v6)]) rfl (pc' := 67) rfl ?_
  refine mm_goto (tgt := 17) dX8_priceOf_67 (by decide) ?_
  exact mm_sub [1, 2, 3, 4, 5, 6, 0] rfl (hr17 _ _ h)
def X8_priceOf_L17 (fu : Nat)  (q_st : Nat → Int32) (v1 : Int32) (v2 : Int32) (v3 : Int32) (v5 : Int32) : Nat → Int32 → Int32 → Option (Int32)
  | 0, _, _ => none
  | n + 1, v6, v7 => if (12 : Int32) ≤ v7 then (some (v6)) else (if ((v5 >>> (v7 &&& 31)) &&& (1 : Int32)) = (1 : Int32) then ((f_X8_cellOf fu v3 v7).bind fun t40 => (f_X8_price fu q_st v2 t40 v1).bind fun t44 => if t44 = (-1 : Int32) then (some ((-1 : Int32))) else (X8_priceOf_J64 fu (X8_priceOf_L17 fu q_st v1 v2 v3 v5 n) q_st v1 v2 v3 v5 (v6 + t44) v7)) else (X8_priceOf_J64 fu (X8_priceOf_L17 fu q_st v1 v2 v3 v5 n) q_st v1 v2 v3 v5 v6 v7))
set_option maxHeartbeats 4000000 in
set_option maxRecDepth 100000 in
theorem s_X8_priceOf_L17 {fu : Nat} {q_textSize : Int32} {q_cursor : Int32} {q_start : Int32} {q_token : Int32} {q_number : Int32} {q_word : Int64} {q_fault : Int32} {q_line : Int32} {q_foundPains : Int32} {q_foundLine : Int32} {q_deadMany : Int32} {q_deadSize : Int32} {q_deadLeast : Int32} {q_deadMost : Int32} {q_st : Nat → Int32} {q_before : Nat → Int32} {q_kept : Nat → Int32} {q_isKept : Nat → Int32} {q_refused : Nat → Int32} {q_text : Nat → Int32} {q_ones : Nat → Int32} {q_said : Nat → Int32} {q_readTable : Nat → Int32} {q_least : Nat → Int32} {q_made : Nat → Int32} {q_enough : Nat → Int32} {q_isWanted : Nat → Int32} {q_column : Nat → Int32} {q_foundColumn : Nat → Int32} {q_walls : Nat → Int64} {q_wallMany : Nat → Int32} {q_chosen : Nat → Int32} {r : Int32} {v1 : Int32} {v2 : Int32} {v3 : Int32} {v5 : Int32} : ∀ (n : Nat) (v6 : Int32) (v7 : Int32), X8_priceOf_L17 fu q_st v1 v2 v3 v5 n v6 v7 = some r → mm_Wp mX8_priceOf (mm_R (P_X8_priceOf q_textSize q_cursor q_start q_token q_number q_word q_fault q_line q_foundPains q_foundLine q_deadMany q_deadSize q_deadLeast q_deadMost q_st q_before q_kept q_isKept q_refused q_text q_ones q_said q_readTable q_least q_made q_enough q_isWanted q_column q_foundColumn q_walls q_wallMany q_chosen r)) 0 0 17 [(0, .ref 0), (1, .int v1), (2, .int v2), (3, .int v3), (5, .int v5), (6, .int v6), (7, .int v7)] [] (W_X8 q_textSize q_cursor q_start q_token q_number q_word q_fault q_line q_foundPains q_foundLine q_deadMany q_deadSize q_deadLeast q_deadMost q_st q_before q_kept q_isKept q_refused q_text q_ones q_said q_readTable q_least q_made q_enough q_isWanted q_column q_foundColumn q_walls q_wallMany q_chosen) := by
  intro n
  induction n with
  | zero =>
    intro v6 v7 h
    rw [X8_priceOf_L17] at h
    cases h
  | succ n hr17 =>
    intro v6 v7 h
    rw [X8_priceOf_L17] at h
    refine mm_iload 6 dX8_priceOf_17 rfl (pc' := 19) rfl ?_
    refine mm_bipush dX8_priceOf_19 kb_12 (pc' := 21) rfl ?_
    refine mm_icmp_ge (tgt := 70) dX8_priceOf_21 (by decide) (pc' := 24) rfl (fun c => ?_) (fun c => ?_)
    · replace h := mm_it h c
      clear c
      refine mm_iload 5 dX8_priceOf_70 rfl (pc' := 72) rfl ?_
      have h9 := Option.some.inj h
      subst h9
      exact mm_iret rfl dX8_priceOf_72 ⟨rfl, rfl⟩
    · replace h := mm_if h c
      clear c
      refine mm_iload 4 dX8_priceOf_24 rfl (pc' := 26) rfl ?_
      refine mm_iload 6 dX8_priceOf_26 rfl (pc' := 28) rfl ?_
      refine mm_ishr dX8_priceOf_28 (pc' := 29) rfl ?_
      refine mm_iconst dX8_priceOf_29 ki_1 (pc' := 30) rfl ?_
      refine mm_iand dX8_priceOf_30 (pc' := 31) rfl ?_
      refine mm_iconst dX8_priceOf_31 ki_1 (pc' := 32) rfl ?_
      refine mm_icmp_ne (tgt := 64) dX8_priceOf_32 (by decide) (pc' := 35) rfl (fun c => ?_) (fun c => ?_)
      · replace h := mm_if h c
        clear c
        exact s_X8_priceOf_J64 (hr17 := hr17) h
      · replace h := mm_it h c
        clear c
        refine mm_aload_n 0 dX8_priceOf_35 rfl rfl (pc' := 36) rfl ?_
        refine mm_iload_n 2 dX8_priceOf_36 rfl rfl (pc' := 37) rfl ?_
        refine mm_iload_n 3 dX8_priceOf_37 rfl rfl (pc' := 38) rfl ?_
        refine mm_iload 6 dX8_priceOf_38 rfl (pc' := 40) rfl ?_
        obtain ⟨t40, h40, h⟩ := mm_bd h
        refine mm_callS (As := [.int v3, .int v7]) (rest := [.int v2, .ref 0]) (av := [.int v3, .int v7]) (wc := []) (is := []) cS_X8_183 (ok_X8_cellOf h40) ⟨rfl, rfl, Nat.le_of_ble_eq_true rfl, Nat.le_of_ble_eq_true rfl⟩ dX8_priceOf_40 rfl rfl rfl ⟨rfl, by decide, by decide⟩ (by rintro _ _ ⟨-, rfl⟩; rfl) (Nat.le_of_ble_eq_true rfl) ⟨Nat.le_of_ble_eq_true rfl, Nat.le_of_ble_eq_true rfl⟩ (pc' := 43) rfl ?_
        rintro rv w ⟨rfl, rfl⟩
        show mm_Wp _ _ _ _ 43 [(0, .ref 0), (1, .int v1), (2, .int v2), (3, .int v3), (5, .int v5), (6, .int v6), (7, .int v7)] [.int t40, .int v2, .ref 0] (W_X8 q_textSize q_cursor q_start q_token q_number q_word q_fault q_line q_foundPains q_foundLine q_deadMany q_deadSize q_deadLeast q_deadMost q_st q_before q_kept q_isKept q_refused q_text q_ones q_said q_readTable q_least q_made q_enough q_isWanted q_column q_foundColumn q_walls q_wallMany q_chosen)
        clear h40
        refine mm_iload_n 1 dX8_priceOf_43 rfl rfl (pc' := 44) rfl ?_
        obtain ⟨t44, h44, h⟩ := mm_bd h
        refine mm_call0 (As := [.int v2, .int t40, .int v1]) (rest := []) cV_X8_118 (ok_X8_price h44) ⟨rfl, rfl, Nat.le_of_ble_eq_true rfl, Nat.le_of_ble_eq_true rfl⟩ dX8_priceOf_44 rfl rfl rfl rfl (by rintro _ _ ⟨-, rfl⟩; rfl) (Nat.le_of_ble_eq_true rfl) ⟨Nat.le_of_ble_eq_true rfl, Nat.le_of_ble_eq_true rfl⟩ (pc' := 47) rfl ?_
        rintro rv w ⟨rfl, rfl⟩
        show mm_Wp _ _ _ _ 47 [(0, .ref 0), (1, .int v1), (2, .int v2), (3, .int v3), (5, .int v5), (6, .int v6), (7, .int v7)] [.int t44] (W_X8 q_textSize q_cursor q_start q_token q_number q_word q_fault q_line q_foundPains q_foundLine q_deadMany q_deadSize q_deadLeast q_deadMost q_st q_before q_kept q_isKept q_refused q_text q_ones q_said q_readTable q_least q_made q_enough q_isWanted q_column q_foundColumn q_walls q_wallMany q_chosen)
        clear h44
        refine mm_istore dX8_priceOf_47 (by decide) (l' := [(8, .int t44), (0, .ref 0), (1, .int v1), (2, .int v2), (3, .int v3), (5, .int v5), (6, .int v6), (7, .int v7)]) rfl (pc' := 49) rfl ?_
        refine mm_iload 0 dX8_priceOf_49 rfl (pc' := 51) rfl ?_
        refine mm_iconst dX8_priceOf_51 ki_m1 (pc' := 52) rfl ?_
        refine mm_icmp_ne (tgt := 57) dX8_priceOf_52 (by decide) (pc' := 55) rfl (fun c => ?_) (fun c => ?_)
        · replace h := mm_if h c
          clear c
          refine mm_iload 6 dX8_priceOf_57 rfl (pc' := 59) rfl ?_
          refine mm_iload 0 dX8_priceOf_59 rfl (pc' := 61) rfl ?_
          refine mm_iadd dX8_priceOf_61 (pc' := 62) rfl ?_
          refine mm_istore dX8_priceOf_62 (by decide) (l' := [(6, .int (v6 + t44)), (8, .int t44), (0, .ref 0), (1, .int v1), (2, .int v2), (3, .int v3), (5, .int v5), (7, .int v7)]) rfl (pc' := 64) rfl ?_
          exact mm_sub [2, 3, 4, 5, 6, 0, 7] rfl (s_X8_priceOf_J64 (hr17 := hr17) h)
        · replace h := mm_it h c
          clear c
          refine mm_iconst dX8_priceOf_55 ki_m1 (pc' := 56) rfl ?_
          have h9 := Option.some.inj h
          subst h9
          exact mm_iret rfl dX8_priceOf_56 ⟨rfl, rfl⟩
def f_X8_priceOf (fu : Nat) (q_st : Nat → Int32) (v1 : Int32) (v2 : Int32) (v3 : Int32) (v4 : Int32) : Option (Int32) := (f_X8_shapeAt fu q_st v2 v3).bind fun t5 => X8_priceOf_L17 fu q_st v1 v2 v3 (v4 ^^^ t5) fu (0 : Int32) (0 : Int32)
set_option maxHeartbeats 4000000 in
set_option maxRecDepth 100000 in
theorem ok_X8_priceOf {fu : Nat} {q_textSize : Int32} {q_cursor : Int32} {q_start : Int32} {q_token : Int32} {q_number : Int32} {q_word : Int64} {q_fault : Int32} {q_line : Int32} {q_foundPains : Int32} {q_foundLine : Int32} {q_deadMany : Int32} {q_deadSize : Int32} {q_deadLeast : Int32} {q_deadMost : Int32} {q_st : Nat → Int32} {q_before : Nat → Int32} {q_kept : Nat → Int32} {q_isKept : Nat → Int32} {q_refused : Nat → Int32} {q_text : Nat → Int32} {q_ones : Nat → Int32} {q_said : Nat → Int32} {q_readTable : Nat → Int32} {q_least : Nat → Int32} {q_made : Nat → Int32} {q_enough : Nat → Int32} {q_isWanted : Nat → Int32} {q_column : Nat → Int32} {q_foundColumn : Nat → Int32} {q_walls : Nat → Int64} {q_wallMany : Nat → Int32} {q_chosen : Nat → Int32} {r : Int32} {v1 : Int32} {v2 : Int32} {v3 : Int32} {v4 : Int32} (h : f_X8_priceOf fu q_st v1 v2 v3 v4 = some r) : mm_Ok mX8_priceOf [.ref 0, .int v1, .int v2, .int v3, .int v4] (W_X8 q_textSize q_cursor q_start q_token q_number q_word q_fault q_line q_foundPains q_foundLine q_deadMany q_deadSize q_deadLeast q_deadMost q_st q_before q_kept q_isKept q_refused q_text q_ones q_said q_readTable q_least q_made q_enough q_isWanted q_column q_foundColumn q_walls q_wallMany q_chosen) (P_X8_priceOf q_textSize q_cursor q_start q_token q_number q_word q_fault q_line q_foundPains q_foundLine q_deadMany q_deadSize q_deadLeast q_deadMost q_st q_before q_kept q_isKept q_refused q_text q_ones q_said q_readTable q_least q_made q_enough q_isWanted q_column q_foundColumn q_walls q_wallMany q_chosen r) := by
  rw [f_X8_priceOf] at h
  refine mm_Ok.of pn_X8 (l := [(0, .ref 0), (1, .int v1), (2, .int v2), (3, .int v3), (4, .int v4)]) rfl (Nat.le_of_ble_eq_true rfl) ?_
  refine mm_iload 4 dX8_priceOf_0 rfl (pc' := 2) rfl ?_
  refine mm_aload_n 0 dX8_priceOf_2 rfl rfl (pc' := 3) rfl ?_
  refine mm_iload_n 2 dX8_priceOf_3 rfl rfl (pc' := 4) rfl ?_
  refine mm_iload_n 3 dX8_priceOf_4 rfl rfl (pc' := 5) rfl ?_
  obtain ⟨t5, h5, h⟩ := mm_bd h
  refine mm_call0 (As := [.int v2, .int v3]) (rest := [.int v4]) cV_X8_192 (ok_X8_shapeAt h5) ⟨rfl, rfl, Nat.le_of_ble_eq_true rfl, Nat.le_of_ble_eq_true rfl⟩ dX8_priceOf_5 rfl rfl rfl rfl (by rintro _ _ ⟨-, rfl⟩; rfl) (Nat.le_of_ble_eq_true rfl) ⟨Nat.le_of_ble_eq_true rfl, Nat.le_of_ble_eq_true rfl⟩ (pc' := 8) rfl ?_
  rintro rv w ⟨rfl, rfl⟩
  show mm_Wp _ _ _ _ 8 [(0, .ref 0), (1, .int v1), (2, .int v2), (3, .int v3), (4, .int v4)] [.int t5, .int v4] (W_X8 q_textSize q_cursor q_start q_token q_number q_word q_fault q_line q_foundPains q_foundLine q_deadMany q_deadSize q_deadLeast q_deadMost q_st q_before q_kept q_isKept q_refused q_text q_ones q_said q_readTable q_least q_made q_enough q_isWanted q_column q_foundColumn q_walls q_wallMany q_chosen)
  clear h5
  refine mm_ixor dX8_priceOf_8 (pc' := 9) rfl ?_
  refine mm_istore dX8_priceOf_9 (by decide) (l' := [(5, .int (v4 ^^^ t5)), (0, .ref 0), (1, .int v1), (2, .int v2), (3, .int v3), (4, .int v4)]) rfl (pc' := 11) rfl ?_
  refine mm_iconst dX8_priceOf_11 ki_0 (pc' := 12) rfl ?_
  refine mm_istore dX8_priceOf_12 (by decide) (l' := [(6, .int (0 : Int32)), (5, .int (v4 ^^^ t5)), (0, .ref 0), (1, .int v1), (2, .int v2), (3, .int v3), (4, .int v4)]) rfl (pc' := 14) rfl ?_
  refine mm_iconst dX8_priceOf_14 ki_0 (pc' := 15) rfl ?_
  refine mm_istore dX8_priceOf_15 (by decide) (l' := [(7, .int (0 : Int32)), (6, .int (0 : Int32)), (5, .int (v4 ^^^ t5)), (0, .ref 0), (1, .int v1), (2, .int v2), (3, .int v3), (4, .int v4)]) rfl (pc' := 17) rfl ?_
  exact mm_sub [3, 4, 5, 6, 2, 1, 0] rfl (s_X8_priceOf_L17  _ _ _ h)

def P_X8_makeBox (q_textSize : Int32) (q_cursor : Int32) (q_start : Int32) (q_token : Int32) (q_number : Int32) (q_word : Int64) (q_fault : Int32) (q_line : Int32) (q_foundPains : Int32) (q_foundLine : Int32) (q_deadMany : Int32) (q_deadSize : Int32) (q_deadLeast : Int32) (q_deadMost : Int32) (q_st : Nat → Int32) (q_before : Nat → Int32) (q_kept : Nat → Int32) (q_isKept : Nat → Int32) (q_refused : Nat → Int32) (q_text : Nat → Int32) (q_ones : Nat → Int32) (q_said : Nat → Int32) (q_readTable : Nat → Int32) (q_enough : Nat → Int32) (q_isWanted : Nat → Int32) (q_column : Nat → Int32) (q_foundColumn : Nat → Int32) (q_walls : Nat → Int64) (q_wallMany : Nat → Int32) (q_chosen : Nat → Int32) (r : (Nat → Int32) × (Nat → Int32)) : Option Value → mm_W → Prop := fun rv w => rv = none ∧ w = (W_X8 q_textSize q_cursor q_start q_token q_number q_word q_fault q_line q_foundPains q_foundLine q_deadMany q_deadSize q_deadLeast q_deadMost q_st q_before q_kept q_isKept q_refused q_text q_ones q_said q_readTable r.1 r.2 q_enough q_isWanted q_column q_foundColumn q_walls q_wallMany q_chosen)
def X8_makeBox_J118 (fu : Nat) (rec35 : (Nat → Int32) → (Nat → Int32) → Int32 → Option ((Nat → Int32) × (Nat → Int32))) (q_st : Nat → Int32) (q_readTable : Nat → Int32) (q_least : Nat → Int32) (q_made : Nat → Int32) (v1 : Int32) (v2 : Int32) (v4 : Int32) (v5 : Int32) (v6 : Int32) (v7 : Int32)  : Option ((Nat → Int32) × (Nat → Int32)) := rec35 q_least q_made (v7 + (1 : Int32))
set_option maxHeartbeats 4000000 in
set_option maxRecDepth 100000 in
theorem s_X8_makeBox_J118 {fu : Nat} {q_textSize : Int32} {q_cursor : Int32} {q_start : Int32} {q_token : Int32} {q_number : Int32} {q_word : Int64} {q_fault : Int32} {q_line : Int32} {q_foundPains : Int32} {q_foundLine : Int32} {q_deadMany : Int32} {q_deadSize : Int32} {q_deadLeast : Int32} {q_deadMost : Int32} {q_st : Nat → Int32} {q_before : Nat → Int32} {q_kept : Nat → Int32} {q_isKept : Nat → Int32} {q_refused : Nat → Int32} {q_text : Nat → Int32} {q_ones : Nat → Int32} {q_said : Nat → Int32} {q_readTable : Nat → Int32} {q_least : Nat → Int32} {q_made : Nat → Int32} {q_enough : Nat → Int32} {q_isWanted : Nat → Int32} {q_column : Nat → Int32} {q_foundColumn : Nat → Int32} {q_walls : Nat → Int64} {q_wallMany : Nat → Int32} {q_chosen : Nat → Int32} {r : (Nat → Int32) × (Nat → Int32)} {rec35 : (Nat → Int32) → (Nat → Int32) → Int32 → Option ((Nat → Int32) × (Nat → Int32))} {v1 : Int32} {v2 : Int32} {v4 : Int32} {v5 : Int32} {v6 : Int32} {v7 : Int32} (hr35 : ∀ (z_q_least : Nat → Int32) (z_q_made : Nat → Int32) (y7 : Int32), rec35 z_q_least z_q_made y7 = some r → mm_Wp mX8_makeBox (mm_R (P_X8_makeBox q_textSize q_cursor q_start q_token q_number q_word q_fault q_line q_foundPains q_foundLine q_deadMany q_deadSize q_deadLeast q_deadMost q_st q_before q_kept q_isKept q_refused q_text q_ones q_said q_readTable q_enough q_isWanted q_column q_foundColumn q_walls q_wallMany q_chosen r)) 0 0 35 [(0, .ref 0), (1, .int v1), (2, .int v2), (4, .int v4), (5, .int v5), (6, .int v6), (7, .int y7)] [] (W_X8 q_textSize q_cursor q_start q_token q_number q_word q_fault q_line q_foundPains q_foundLine q_deadMany q_deadSize q_deadLeast q_deadMost q_st q_before q_kept q_isKept q_refused q_text q_ones q_said q_readTable z_q_least z_q_made q_enough q_isWanted q_column q_foundColumn q_walls q_wallMany q_chosen)) (h : X8_makeBox_J118 fu rec35 q_st q_readTable q_least q_made v1 v2 v4 v5 v6 v7 = some r) : mm_Wp mX8_makeBox (mm_R (P_X8_makeBox q_textSize q_cursor q_start q_token q_number q_word q_fault q_line q_foundPains q_foundLine q_deadMany q_deadSize q_deadLeast q_deadMost q_st q_before q_kept q_isKept q_refused q_text q_ones q_said q_readTable q_enough q_isWanted q_column q_foundColumn q_walls q_wallMany q_chosen r)) 0 0 118 [(0, .ref 0), (1, .int v1), (2, .int v2), (4, .int v4), (5, .int v5), (6, .int v6), (7, .int v7)] [] (W_X8 q_textSize q_cursor q_start q_token q_number q_word q_fault q_line q_foundPains q_foundLine q_deadMany q_deadSize q_deadLeast q_deadMost q_st q_before q_kept q_isKept q_refused q_text q_ones q_said q_readTable q_least q_made q_enough q_isWanted q_column q_foundColumn q_walls q_wallMany q_chosen) := by
  rw [X8_makeBox_J118] at h
  refine mm_iinc 6 dX8_makeBox_118 rfl ki_1 (by decide) (l' := [(7, .int (v7 + (1 : Int32))), (0, .ref 0), (1, .int v1), (2, .int v2), (4, .int v4), (5, .int v5), (6, .int v6)]) rfl (pc' := 121) rfl ?_
  refine mm_goto (tgt := 35) dX8_makeBox_121 (by decide) ?_
  exact mm_sub [1, 2, 3, 4, 5, 6, 0] rfl (hr35 _ _ _ h)
def X8_makeBox_J100 (fu : Nat) (rec35 : (Nat → Int32) → (Nat → Int32) → Int32 → Option ((Nat → Int32) × (Nat → Int32))) (q_st : Nat → Int32) (q_readTable : Nat → Int32) (q_least : Nat → Int32) (q_made : Nat → Int32) (v1 : Int32) (v2 : Int32) (v4 : Int32) (v5 : Int32) (v6 : Int32) (v7 : Int32) (v8 : Int32)  : Option ((Nat → Int32) × (Nat → Int32)) := mm_ck 72 v5 (mm_ck 72 v5 (X8_makeBox_J118 fu rec35 q_st q_readTable (upd q_least v5.toNatClampNeg v8) (upd q_made v5.toNatClampNeg v7) v1 v2 v4 v5 v6 v7))
set_option maxHeartbeats 4000000 in
set_option maxRecDepth 100000 in
theorem s_X8_makeBox_J100 {fu : Nat} {q_textSize : Int32} {q_cursor : Int32} {q_start : Int32} {q_token : Int32} {q_number : Int32} {q_word : Int64} {q_fault : Int32} {q_line : Int32} {q_foundPains : Int32} {q_foundLine : Int32} {q_deadMany : Int32} {q_deadSize : Int32} {q_deadLeast : Int32} {q_deadMost : Int32} {q_st : Nat → Int32} {q_before : Nat → Int32} {q_kept : Nat → Int32} {q_isKept : Nat → Int32} {q_refused : Nat → Int32} {q_text : Nat → Int32} {q_ones : Nat → Int32} {q_said : Nat → Int32} {q_readTable : Nat → Int32} {q_least : Nat → Int32} {q_made : Nat → Int32} {q_enough : Nat → Int32} {q_isWanted : Nat → Int32} {q_column : Nat → Int32} {q_foundColumn : Nat → Int32} {q_walls : Nat → Int64} {q_wallMany : Nat → Int32} {q_chosen : Nat → Int32} {r : (Nat → Int32) × (Nat → Int32)} {rec35 : (Nat → Int32) → (Nat → Int32) → Int32 → Option ((Nat → Int32) × (Nat → Int32))} {v1 : Int32} {v2 : Int32} {v4 : Int32} {v5 : Int32} {v6 : Int32} {v7 : Int32} {v8 : Int32} (hr35 : ∀ (z_q_least : Nat → Int32) (z_q_made : Nat → Int32) (y7 : Int32), rec35 z_q_least z_q_made y7 = some r → mm_Wp mX8_makeBox (mm_R (P_X8_makeBox q_textSize q_cursor q_start q_token q_number q_word q_fault q_line q_foundPains q_foundLine q_deadMany q_deadSize q_deadLeast q_deadMost q_st q_before q_kept q_isKept q_refused q_text q_ones q_said q_readTable q_enough q_isWanted q_column q_foundColumn q_walls q_wallMany q_chosen r)) 0 0 35 [(0, .ref 0), (1, .int v1), (2, .int v2), (4, .int v4), (5, .int v5), (6, .int v6), (7, .int y7)] [] (W_X8 q_textSize q_cursor q_start q_token q_number q_word q_fault q_line q_foundPains q_foundLine q_deadMany q_deadSize q_deadLeast q_deadMost q_st q_before q_kept q_isKept q_refused q_text q_ones q_said q_readTable z_q_least z_q_made q_enough q_isWanted q_column q_foundColumn q_walls q_wallMany q_chosen)) (h : X8_makeBox_J100 fu rec35 q_st q_readTable q_least q_made v1 v2 v4 v5 v6 v7 v8 = some r) : mm_Wp mX8_makeBox (mm_R (P_X8_makeBox q_textSize q_cursor q_start q_token q_number q_word q_fault q_line q_foundPains q_foundLine q_deadMany q_deadSize q_deadLeast q_deadMost q_st q_before q_kept q_isKept q_refused q_text q_ones q_said q_readTable q_enough q_isWanted q_column q_foundColumn q_walls q_wallMany q_chosen r)) 0 0 100 [(0, .ref 0), (1, .int v1), (2, .int v2), (4, .int v4), (5, .int v5), (6, .int v6), (7, .int v7), (8, .int v8)] [] (W_X8 q_textSize q_cursor q_start q_token q_number q_word q_fault q_line q_foundPains q_foundLine q_deadMany q_deadSize q_deadLeast q_deadMost q_st q_before q_kept q_isKept q_refused q_text q_ones q_said q_readTable q_least q_made q_enough q_isWanted q_column q_foundColumn q_walls q_wallMany q_chosen) := by
  rw [X8_makeBox_J100] at h
  refine mm_aload_n 0 dX8_makeBox_100 rfl rfl (pc' := 101) rfl ?_
  refine mm_getf fG_X8_38 dX8_makeBox_101 rfl rfl (pc' := 104) rfl ?_
  refine mm_iload 4 dX8_makeBox_104 rfl (pc' := 106) rfl ?_
  refine mm_iload 7 dX8_makeBox_106 rfl (pc' := 108) rfl ?_
  obtain ⟨c108, h⟩ := mm_ck_of h
  refine mm_iast dX8_makeBox_108 rfl c108 rfl (ws' := (W_X8 q_textSize q_cursor q_start q_token q_number q_word q_fault q_line q_foundPains q_foundLine q_deadMany q_deadSize q_deadLeast q_deadMost q_st q_before q_kept q_isKept q_refused q_text q_ones q_said q_readTable (upd q_least v5.toNatClampNeg v8) q_made q_enough q_isWanted q_column q_foundColumn q_walls q_wallMany q_chosen)) rfl (pc' := 109) rfl ?_
  clear c108
  refine mm_aload_n 0 dX8_makeBox_109 rfl rfl (pc' := 110) rfl ?_
  refine mm_getf fG_X8_41 dX8_makeBox_110 rfl rfl (pc' := 113) rfl ?_
  refine mm_iload 4 dX8_makeBox_113 rfl (pc' := 115) rfl ?_
  refine mm_iload 6 dX8_makeBox_115 rfl (pc' := 117) rfl ?_
  obtain ⟨c117, h⟩ := mm_ck_of h
  refine mm_iast dX8_makeBox_117 rfl c117 rfl (ws' := (W_X8 q_textSize q_cursor q_start q_token q_number q_word q_fault q_line q_foundPains q_foundLine q_deadMany q_deadSize q_deadLeast q_deadMost q_st q_before q_kept q_isKept q_refused q_text q_ones q_said q_readTable (upd q_least v5.toNatClampNeg v8) (upd q_made v5.toNatClampNeg v7) q_enough q_isWanted q_column q_foundColumn q_walls q_wallMany q_chosen)) rfl (pc' := 118) rfl ?_
  clear c117
  exact mm_sub [0, 1, 2, 3, 4, 5, 6] rfl (s_X8_makeBox_J118 (hr35 := hr35) h)
def X8_makeBox_J69 (fu : Nat) (rec35 : (Nat → Int32) → (Nat → Int32) → Int32 → Option ((Nat → Int32) × (Nat → Int32))) (q_st : Nat → Int32) (q_readTable : Nat → Int32) (q_least : Nat → Int32) (q_made : Nat → Int32) (v1 : Int32) (v2 : Int32) (v4 : Int32) (v5 : Int32) (v6 : Int32) (v7 : Int32) (s0 : Int32) : Option ((Nat → Int32) × (Nat → Int32)) := if s0 = (-1 : Int32) then (X8_makeBox_J118 fu rec35 q_st q_readTable q_least q_made v1 v2 v4 v5 v6 v7) else (mm_rd q_least 72 v5 fun x83 => if x83 = (-1 : Int32) then (X8_makeBox_J100 fu rec35 q_st q_readTable q_least q_made v1 v2 v4 v5 v6 v7 s0) else (mm_rd q_least 72 v5 fun x96 => if x96 ≤ s0 then (X8_makeBox_J118 fu rec35 q_st q_readTable q_least q_made v1 v2 v4 v5 v6 v7) else (X8_makeBox_J100 fu rec35 q_st q_readTable q_least q_made v1 v2 v4 v5 v6 v7 s0)))
set_option maxHeartbeats 4000000 in
set_option maxRecDepth 100000 in
theorem s_X8_makeBox_J69 {fu : Nat} {q_textSize : Int32} {q_cursor : Int32} {q_start : Int32} {q_token : Int32} {q_number : Int32} {q_word : Int64} {q_fault : Int32} {q_line : Int32} {q_foundPains : Int32} {q_foundLine : Int32} {q_deadMany : Int32} {q_deadSize : Int32} {q_deadLeast : Int32} {q_deadMost : Int32} {q_st : Nat → Int32} {q_before : Nat → Int32} {q_kept : Nat → Int32} {q_isKept : Nat → Int32} {q_refused : Nat → Int32} {q_text : Nat → Int32} {q_ones : Nat → Int32} {q_said : Nat → Int32} {q_readTable : Nat → Int32} {q_least : Nat → Int32} {q_made : Nat → Int32} {q_enough : Nat → Int32} {q_isWanted : Nat → Int32} {q_column : Nat → Int32} {q_foundColumn : Nat → Int32} {q_walls : Nat → Int64} {q_wallMany : Nat → Int32} {q_chosen : Nat → Int32} {r : (Nat → Int32) × (Nat → Int32)} {rec35 : (Nat → Int32) → (Nat → Int32) → Int32 → Option ((Nat → Int32) × (Nat → Int32))} {v1 : Int32} {v2 : Int32} {v4 : Int32} {v5 : Int32} {v6 : Int32} {v7 : Int32} {s0 : Int32} (hr35 : ∀ (z_q_least : Nat → Int32) (z_q_made : Nat → Int32) (y7 : Int32), rec35 z_q_least z_q_made y7 = some r → mm_Wp mX8_makeBox (mm_R (P_X8_makeBox q_textSize q_cursor q_start q_token q_number q_word q_fault q_line q_foundPains q_foundLine q_deadMany q_deadSize q_deadLeast q_deadMost q_st q_before q_kept q_isKept q_refused q_text q_ones q_said q_readTable q_enough q_isWanted q_column q_foundColumn q_walls q_wallMany q_chosen r)) 0 0 35 [(0, .ref 0), (1, .int v1), (2, .int v2), (4, .int v4), (5, .int v5), (6, .int v6), (7, .int y7)] [] (W_X8 q_textSize q_cursor q_start q_token q_number q_word q_fault q_line q_foundPains q_foundLine q_deadMany q_deadSize q_deadLeast q_deadMost q_st q_before q_kept q_isKept q_refused q_text q_ones q_said q_readTable z_q_least z_q_made q_enough q_isWanted q_column q_foundColumn q_walls q_wallMany q_chosen)) (h : X8_makeBox_J69 fu rec35 q_st q_readTable q_least q_made v1 v2 v4 v5 v6 v7 s0 = some r) : mm_Wp mX8_makeBox (mm_R (P_X8_makeBox q_textSize q_cursor q_start q_token q_number q_word q_fault q_line q_foundPains q_foundLine q_deadMany q_deadSize q_deadLeast q_deadMost q_st q_before q_kept q_isKept q_refused q_text q_ones q_said q_readTable q_enough q_isWanted q_column q_foundColumn q_walls q_wallMany q_chosen r)) 0 0 69 [(0, .ref 0), (1, .int v1), (2, .int v2), (4, .int v4), (5, .int v5), (6, .int v6), (7, .int v7)] [.int s0] (W_X8 q_textSize q_cursor q_start q_token q_number q_word q_fault q_line q_foundPains q_foundLine q_deadMany q_deadSize q_deadLeast q_deadMost q_st q_before q_kept q_isKept q_refused q_text q_ones q_said q_readTable q_least q_made q_enough q_isWanted q_column q_foundColumn q_walls q_wallMany q_chosen) := by
  rw [X8_makeBox_J69] at h
  refine mm_istore dX8_makeBox_69 (by decide) (l' := [(8, .int s0), (0, .ref 0), (1, .int v1), (2, .int v2), (4, .int v4), (5, .int v5), (6, .int v6), (7, .int v7)]) rfl (pc' := 71) rfl ?_
  refine mm_iload 0 dX8_makeBox_71 rfl (pc' := 73) rfl ?_
  refine mm_iconst dX8_makeBox_73 ki_m1 (pc' := 74) rfl ?_
  refine mm_icmp_eq (tgt := 118) dX8_makeBox_74 (by decide) (pc' := 77) rfl (fun c => ?_) (fun c => ?_)
  · replace h := mm_it h c
    clear c
    exact mm_sub [1, 2, 3, 4, 5, 6, 7] rfl (s_X8_makeBox_J118 (hr35 := hr35) h)
  · replace h := mm_if h c
    clear c
    refine mm_aload_n 1 dX8_makeBox_77 rfl rfl (pc' := 78) rfl ?_
    refine mm_getf fG_X8_38 dX8_makeBox_78 rfl rfl (pc' := 81) rfl ?_
    refine mm_iload 5 dX8_makeBox_81 rfl (pc' := 83) rfl ?_
    obtain ⟨x83, c83, e83, h⟩ := mm_rd_of h
    refine mm_iald dX8_makeBox_83 rfl c83 e83 (pc' := 84) rfl ?_
    clear c83 e83
    refine mm_iconst dX8_makeBox_84 ki_m1 (pc' := 85) rfl ?_
    refine mm_icmp_eq (tgt := 100) dX8_makeBox_85 (by decide) (pc' := 88) rfl (fun c => ?_) (fun c => ?_)
    · replace h := mm_it h c
      clear c
      exact mm_sub [1, 2, 3, 4, 5, 6, 7, 0] rfl (s_X8_makeBox_J100 (hr35 := hr35) h)
    · replace h := mm_if h c
      clear c
      refine mm_iload 0 dX8_makeBox_88 rfl (pc' := 90) rfl ?_
      refine mm_aload_n 1 dX8_makeBox_90 rfl rfl (pc' := 91) rfl ?_
      refine mm_getf fG_X8_38 dX8_makeBox_91 rfl rfl (pc' := 94) rfl ?_
      refine mm_iload 5 dX8_makeBox_94 rfl (pc' := 96) rfl ?_
      obtain ⟨x96, c96, e96, h⟩ := mm_rd_of h
      refine mm_iald dX8_makeBox_96 rfl c96 e96 (pc' := 97) rfl ?_
      clear c96 e96
      refine mm_icmp_ge (tgt := 118) dX8_makeBox_97 (by decide) (pc' := 100) rfl (fun c => ?_) (fun c => ?_)
      · replace h := mm_it h c
        clear c
        exact mm_sub [1, 2, 3, 4, 5, 6, 7] rfl (s_X8_makeBox_J118 (hr35 := hr35) h)
      · replace h := mm_if h c
        clear c
        exact mm_sub [1, 2, 3, 4, 5, 6, 7, 0] rfl (s_X8_makeBox_J100 (hr35 := hr35) h)
def X8_makeBox_L35 (fu : Nat)  (q_st : Nat → Int32) (q_readTable : Nat → Int32) (v1 : Int32) (v2 : Int32) (v4 : Int32) (v5 : Int32) (v6 : Int32) : Nat → (Nat → Int32) → (Nat → Int32) → Int32 → Option ((Nat → Int32) × (Nat → Int32))
  | 0, _, _, _ => none
  | n + 1, q_least, q_made, v7 => if (4096 : Int32) ≤ v7 then (some (q_least, q_made)) else (mm_rd q_readTable 4096 v7 fun x49 => if x49 = v6 then ((f_X8_priceOf fu q_st v1 v2 v4 v7).bind fun t62 => X8_makeBox_J69 fu (X8_makeBox_L35 fu q_st q_readTable v1 v2 v4 v5 v6 n) q_st q_readTable q_least q_made v1 v2 v4 v5 v6 v7 t62) else (X8_makeBox_J69 fu (X8_makeBox_L35 fu q_st q_readTable v1 v2 v4 v5 v6 n) q_st q_readTable q_least q_made v1 v2 v4 v5 v6 v7 (-1 : Int32)))
set_option maxHeartbeats 4000000 in
set_option maxRecDepth 100000 in
theorem s_X8_makeBox_L35 {fu : Nat} {q_textSize : Int32} {q_cursor : Int32} {q_start : Int32} {q_token : Int32} {q_number : Int32} {q_word : Int64} {q_fault : Int32} {q_line : Int32} {q_foundPains : Int32} {q_foundLine : Int32} {q_deadMany : Int32} {q_deadSize : Int32} {q_deadLeast : Int32} {q_deadMost : Int32} {q_st : Nat → Int32} {q_before : Nat → Int32} {q_kept : Nat → Int32} {q_isKept : Nat → Int32} {q_refused : Nat → Int32} {q_text : Nat → Int32} {q_ones : Nat → Int32} {q_said : Nat → Int32} {q_readTable : Nat → Int32} {q_enough : Nat → Int32} {q_isWanted : Nat → Int32} {q_column : Nat → Int32} {q_foundColumn : Nat → Int32} {q_walls : Nat → Int64} {q_wallMany : Nat → Int32} {q_chosen : Nat → Int32} {r : (Nat → Int32) × (Nat → Int32)} {v1 : Int32} {v2 : Int32} {v4 : Int32} {v5 : Int32} {v6 : Int32} : ∀ (n : Nat) (q_least : Nat → Int32) (q_made : Nat → Int32) (v7 : Int32), X8_makeBox_L35 fu q_st q_readTable v1 v2 v4 v5 v6 n q_least q_made v7 = some r → mm_Wp mX8_makeBox (mm_R (P_X8_makeBox q_textSize q_cursor q_start q_token q_number q_word q_fault q_line q_foundPains q_foundLine q_deadMany q_deadSize q_deadLeast q_deadMost q_st q_before q_kept q_isKept q_refused q_text q_ones q_said q_readTable q_enough q_isWanted q_column q_foundColumn q_walls q_wallMany q_chosen r)) 0 0 35 [(0, .ref 0), (1, .int v1), (2, .int v2), (4, .int v4), (5, .int v5), (6, .int v6), (7, .int v7)] [] (W_X8 q_textSize q_cursor q_start q_token q_number q_word q_fault q_line q_foundPains q_foundLine q_deadMany q_deadSize q_deadLeast q_deadMost q_st q_before q_kept q_isKept q_refused q_text q_ones q_said q_readTable q_least q_made q_enough q_isWanted q_column q_foundColumn q_walls q_wallMany q_chosen) := by
  intro n
  induction n with
  | zero =>
    intro q_least q_made v7 h
    rw [X8_makeBox_L35] at h
    cases h
  | succ n hr35 =>
    intro q_least q_made v7 h
    rw [X8_makeBox_L35] at h
    refine mm_iload 6 dX8_makeBox_35 rfl (pc' := 37) rfl ?_
    refine mm_sipush dX8_makeBox_37 ks_4096 (pc' := 40) rfl ?_
    refine mm_icmp_ge (tgt := 124) dX8_makeBox_40 (by decide) (pc' := 43) rfl (fun c => ?_) (fun c => ?_)
    · replace h := mm_it h c
      clear c
      have h9 := Option.some.inj h
      subst h9
      exact mm_vret rfl dX8_makeBox_124 ⟨rfl, rfl⟩
    · replace h := mm_if h c
      clear c
      refine mm_aload_n 0 dX8_makeBox_43 rfl rfl (pc' := 44) rfl ?_
      refine mm_getf fG_X8_35 dX8_makeBox_44 rfl rfl (pc' := 47) rfl ?_
      refine mm_iload 6 dX8_makeBox_47 rfl (pc' := 49) rfl ?_
      obtain ⟨x49, c49, e49, h⟩ := mm_rd_of h
      refine mm_iald dX8_makeBox_49 rfl c49 e49 (pc' := 50) rfl ?_
      clear c49 e49
      refine mm_iload 5 dX8_makeBox_50 rfl (pc' := 52) rfl ?_
      refine mm_icmp_ne (tgt := 68) dX8_makeBox_52 (by decide) (pc' := 55) rfl (fun c => ?_) (fun c => ?_)
      · replace h := mm_if h c
        clear c
        refine mm_iconst dX8_makeBox_68 ki_m1 (pc' := 69) rfl ?_
        exact s_X8_makeBox_J69 (hr35 := hr35) h
      · replace h := mm_it h c
        clear c
        refine mm_aload_n 0 dX8_makeBox_55 rfl rfl (pc' := 56) rfl ?_
        refine mm_iload_n 1 dX8_makeBox_56 rfl rfl (pc' := 57) rfl ?_
        refine mm_iload_n 2 dX8_makeBox_57 rfl rfl (pc' := 58) rfl ?_
        refine mm_iload 3 dX8_makeBox_58 rfl (pc' := 60) rfl ?_
        refine mm_iload 6 dX8_makeBox_60 rfl (pc' := 62) rfl ?_
        obtain ⟨t62, h62, h⟩ := mm_bd h
        refine mm_call0 (As := [.int v1, .int v2, .int v4, .int v7]) (rest := []) cV_X8_201 (ok_X8_priceOf h62) ⟨rfl, rfl, Nat.le_of_ble_eq_true rfl, Nat.le_of_ble_eq_true rfl⟩ dX8_makeBox_62 rfl rfl rfl rfl (by rintro _ _ ⟨-, rfl⟩; rfl) (Nat.le_of_ble_eq_true rfl) ⟨Nat.le_of_ble_eq_true rfl, Nat.le_of_ble_eq_true rfl⟩ (pc' := 65) rfl ?_
        rintro rv w ⟨rfl, rfl⟩
        show mm_Wp _ _ _ _ 65 [(0, .ref 0), (1, .int v1), (2, .int v2), (4, .int v4), (5, .int v5), (6, .int v6), (7, .int v7)] [.int t62] (W_X8 q_textSize q_cursor q_start q_token q_number q_word q_fault q_line q_foundPains q_foundLine q_deadMany q_deadSize q_deadLeast q_deadMost q_st q_before q_kept q_isKept q_refused q_text q_ones q_said q_readTable q_least q_made q_enough q_isWanted q_column q_foundColumn q_walls q_wallMany q_chosen)
        clear h62
        refine mm_goto (tgt := 69) dX8_makeBox_65 (by decide) ?_
        exact s_X8_makeBox_J69 (hr35 := hr35) h
def f_X8_makeBox (fu : Nat) (q_st : Nat → Int32) (q_readTable : Nat → Int32) (q_least : Nat → Int32) (q_made : Nat → Int32) (v1 : Int32) (v2 : Int32) (v3 : Int32) (v4 : Int32) : Option ((Nat → Int32) × (Nat → Int32)) := (f_X8_letterOf fu v1 v3).bind fun t11 => mm_ck 72 (((24 : Int32) * v3) + v4) (mm_ck 72 (((24 : Int32) * v3) + v4) (X8_makeBox_L35 fu q_st q_readTable v1 v2 v4 (((24 : Int32) * v3) + v4) t11 fu (upd q_least (((24 : Int32) * v3) + v4).toNatClampNeg (-1 : Int32)) (upd q_made (((24 : Int32) * v3) + v4).toNatClampNeg (-1 : Int32)) (0 : Int32)))
set_option maxHeartbeats 4000000 in
set_option maxRecDepth 100000 in
theorem ok_X8_makeBox {fu : Nat} {q_textSize : Int32} {q_cursor : Int32} {q_start : Int32} {q_token : Int32} {q_number : Int32} {q_word : Int64} {q_fault : Int32} {q_line : Int32} {q_foundPains : Int32} {q_foundLine : Int32} {q_deadMany : Int32} {q_deadSize : Int32} {q_deadLeast : Int32} {q_deadMost : Int32} {q_st : Nat → Int32} {q_before : Nat → Int32} {q_kept : Nat → Int32} {q_isKept : Nat → Int32} {q_refused : Nat → Int32} {q_text : Nat → Int32} {q_ones : Nat → Int32} {q_said : Nat → Int32} {q_readTable : Nat → Int32} {q_least : Nat → Int32} {q_made : Nat → Int32} {q_enough : Nat → Int32} {q_isWanted : Nat → Int32} {q_column : Nat → Int32} {q_foundColumn : Nat → Int32} {q_walls : Nat → Int64} {q_wallMany : Nat → Int32} {q_chosen : Nat → Int32} {r : (Nat → Int32) × (Nat → Int32)} {v1 : Int32} {v2 : Int32} {v3 : Int32} {v4 : Int32} (h : f_X8_makeBox fu q_st q_readTable q_least q_made v1 v2 v3 v4 = some r) : mm_Ok mX8_makeBox [.ref 0, .int v1, .int v2, .int v3, .int v4] (W_X8 q_textSize q_cursor q_start q_token q_number q_word q_fault q_line q_foundPains q_foundLine q_deadMany q_deadSize q_deadLeast q_deadMost q_st q_before q_kept q_isKept q_refused q_text q_ones q_said q_readTable q_least q_made q_enough q_isWanted q_column q_foundColumn q_walls q_wallMany q_chosen) (P_X8_makeBox q_textSize q_cursor q_start q_token q_number q_word q_fault q_line q_foundPains q_foundLine q_deadMany q_deadSize q_deadLeast q_deadMost q_st q_before q_kept q_isKept q_refused q_text q_ones q_said q_readTable q_enough q_isWanted q_column q_foundColumn q_walls q_wallMany q_chosen r) := by
  rw [f_X8_makeBox] at h
  refine mm_Ok.of pn_X8 (l := [(0, .ref 0), (1, .int v1), (2, .int v2), (3, .int v3), (4, .int v4)]) rfl (Nat.le_of_ble_eq_true rfl) ?_
  refine mm_bipush dX8_makeBox_0 kb_24 (pc' := 2) rfl ?_
  refine mm_iload_n 3 dX8_makeBox_2 rfl rfl (pc' := 3) rfl ?_
  refine mm_imul dX8_makeBox_3 (pc' := 4) rfl ?_
  refine mm_iload 4 dX8_makeBox_4 rfl (pc' := 6) rfl ?_
  refine mm_iadd dX8_makeBox_6 (pc' := 7) rfl ?_
  refine mm_istore dX8_makeBox_7 (by decide) (l' := [(5, .int (((24 : Int32) * v3) + v4)), (0, .ref 0), (1, .int v1), (2, .int v2), (3, .int v3), (4, .int v4)]) rfl (pc' := 9) rfl ?_
  refine mm_iload_n 2 dX8_makeBox_9 rfl rfl (pc' := 10) rfl ?_
  refine mm_iload_n 4 dX8_makeBox_10 rfl rfl (pc' := 11) rfl ?_
  obtain ⟨t11, h11, h⟩ := mm_bd h
  refine mm_callS (As := [.int v1, .int v3]) (rest := []) (av := [.int v1, .int v3]) (wc := []) (is := []) cS_X8_198 (ok_X8_letterOf h11) ⟨rfl, rfl, Nat.le_of_ble_eq_true rfl, Nat.le_of_ble_eq_true rfl⟩ dX8_makeBox_11 rfl rfl rfl ⟨rfl, by decide, by decide⟩ (by rintro _ _ ⟨-, rfl⟩; rfl) (Nat.le_of_ble_eq_true rfl) ⟨Nat.le_of_ble_eq_true rfl, Nat.le_of_ble_eq_true rfl⟩ (pc' := 14) rfl ?_
  rintro rv w ⟨rfl, rfl⟩
  show mm_Wp _ _ _ _ 14 [(5, .int (((24 : Int32) * v3) + v4)), (0, .ref 0), (1, .int v1), (2, .int v2), (3, .int v3), (4, .int v4)] [.int t11] (W_X8 q_textSize q_cursor q_start q_token q_number q_word q_fault q_line q_foundPains q_foundLine q_deadMany q_deadSize q_deadLeast q_deadMost q_st q_before q_kept q_isKept q_refused q_text q_ones q_said q_readTable q_least q_made q_enough q_isWanted q_column q_foundColumn q_walls q_wallMany q_chosen)
  clear h11
  refine mm_istore dX8_makeBox_14 (by decide) (l' := [(6, .int t11), (5, .int (((24 : Int32) * v3) + v4)), (0, .ref 0), (1, .int v1), (2, .int v2), (3, .int v3), (4, .int v4)]) rfl (pc' := 16) rfl ?_
  refine mm_aload_n 2 dX8_makeBox_16 rfl rfl (pc' := 17) rfl ?_
  refine mm_getf fG_X8_38 dX8_makeBox_17 rfl rfl (pc' := 20) rfl ?_
  refine mm_iload 1 dX8_makeBox_20 rfl (pc' := 22) rfl ?_
  refine mm_iconst dX8_makeBox_22 ki_m1 (pc' := 23) rfl ?_
  obtain ⟨c23, h⟩ := mm_ck_of h
  refine mm_iast dX8_makeBox_23 rfl c23 rfl (ws' := (W_X8 q_textSize q_cursor q_start q_token q_number q_word q_fault q_line q_foundPains q_foundLine q_deadMany q_deadSize q_deadLeast q_deadMost q_st q_before q_kept q_isKept q_refused q_text q_ones q_said q_readTable (upd q_least (((24 : Int32) * v3) + v4).toNatClampNeg (-1 : Int32)) q_made q_enough q_isWanted q_column q_foundColumn q_walls q_wallMany q_chosen)) rfl (pc' := 24) rfl ?_
  clear c23
  refine mm_aload_n 2 dX8_makeBox_24 rfl rfl (pc' := 25) rfl ?_
  refine mm_getf fG_X8_41 dX8_makeBox_25 rfl rfl (pc' := 28) rfl ?_
  refine mm_iload 1 dX8_makeBox_28 rfl (pc' := 30) rfl ?_
  refine mm_iconst dX8_makeBox_30 ki_m1 (pc' := 31) rfl ?_
  obtain ⟨c31, h⟩ := mm_ck_of h
  refine mm_iast dX8_makeBox_31 rfl c31 rfl (ws' := (W_X8 q_textSize q_cursor q_start q_token q_number q_word q_fault q_line q_foundPains q_foundLine q_deadMany q_deadSize q_deadLeast q_deadMost q_st q_before q_kept q_isKept q_refused q_text q_ones q_said q_readTable (upd q_least (((24 : Int32) * v3) + v4).toNatClampNeg (-1 : Int32)) (upd q_made (((24 : Int32) * v3) + v4).toNatClampNeg (-1 : Int32)) q_enough q_isWanted q_column q_foundColumn q_walls q_wallMany q_chosen)) rfl (pc' := 32) rfl ?_
  clear c31
  refine mm_iconst dX8_makeBox_32 ki_0 (pc' := 33) rfl ?_
  refine mm_istore dX8_makeBox_33 (by decide) (l' := [(7, .int (0 : Int32)), (6, .int t11), (5, .int (((24 : Int32) * v3) + v4)), (0, .ref 0), (1, .int v1), (2, .int v2), (3, .int v3), (4, .int v4)]) rfl (pc' := 35) rfl ?_
  exact mm_sub [3, 4, 5, 7, 2, 1, 0] rfl (s_X8_makeBox_L35  _ _ _ _ h)

def P_X8_makeBoxes (q_textSize : Int32) (q_cursor : Int32) (q_start : Int32) (q_token : Int32) (q_number : Int32) (q_word : Int64) (q_fault : Int32) (q_line : Int32) (q_foundPains : Int32) (q_foundLine : Int32) (q_deadMany : Int32) (q_deadSize : Int32) (q_deadLeast : Int32) (q_deadMost : Int32) (q_st : Nat → Int32) (q_before : Nat → Int32) (q_kept : Nat → Int32) (q_isKept : Nat → Int32) (q_refused : Nat → Int32) (q_text : Nat → Int32) (q_ones : Nat → Int32) (q_said : Nat → Int32) (q_enough : Nat → Int32) (q_isWanted : Nat → Int32) (q_column : Nat → Int32) (q_foundColumn : Nat → Int32) (q_walls : Nat → Int64) (q_wallMany : Nat → Int32) (q_chosen : Nat → Int32) (r : (Nat → Int32) × (Nat → Int32) × (Nat → Int32)) : Option Value → mm_W → Prop := fun rv w => rv = none ∧ w = (W_X8 q_textSize q_cursor q_start q_token q_number q_word q_fault q_line q_foundPains q_foundLine q_deadMany q_deadSize q_deadLeast q_deadMost q_st q_before q_kept q_isKept q_refused q_text q_ones q_said r.1 r.2.1 r.2.2 q_enough q_isWanted q_column q_foundColumn q_walls q_wallMany q_chosen)
def X8_makeBoxes_J42 (fu : Nat) (rec6 : (Nat → Int32) → (Nat → Int32) → Int32 → Option ((Nat → Int32) × (Nat → Int32) × (Nat → Int32))) (rec17 : (Nat → Int32) → (Nat → Int32) → Int32 → Option ((Nat → Int32) × (Nat → Int32) × (Nat → Int32))) (q_st : Nat → Int32) (q_ones : Nat → Int32) (q_readTable : Nat → Int32) (q_least : Nat → Int32) (q_made : Nat → Int32) (v1 : Int32) (v2 : Int32) (v3 : Int32) (v4 : Int32)  : Option ((Nat → Int32) × (Nat → Int32) × (Nat → Int32)) := rec17 q_least q_made (v4 + (1 : Int32))
set_option maxHeartbeats 4000000 in
set_option maxRecDepth 100000 in
theorem s_X8_makeBoxes_J42 {fu : Nat} {q_textSize : Int32} {q_cursor : Int32} {q_start : Int32} {q_token : Int32} {q_number : Int32} {q_word : Int64} {q_fault : Int32} {q_line : Int32} {q_foundPains : Int32} {q_foundLine : Int32} {q_deadMany : Int32} {q_deadSize : Int32} {q_deadLeast : Int32} {q_deadMost : Int32} {q_st : Nat → Int32} {q_before : Nat → Int32} {q_kept : Nat → Int32} {q_isKept : Nat → Int32} {q_refused : Nat → Int32} {q_text : Nat → Int32} {q_ones : Nat → Int32} {q_said : Nat → Int32} {q_readTable : Nat → Int32} {q_least : Nat → Int32} {q_made : Nat → Int32} {q_enough : Nat → Int32} {q_isWanted : Nat → Int32} {q_column : Nat → Int32} {q_foundColumn : Nat → Int32} {q_walls : Nat → Int64} {q_wallMany : Nat → Int32} {q_chosen : Nat → Int32} {r : (Nat → Int32) × (Nat → Int32) × (Nat → Int32)} {rec6 : (Nat → Int32) → (Nat → Int32) → Int32 → Option ((Nat → Int32) × (Nat → Int32) × (Nat → Int32))} {rec17 : (Nat → Int32) → (Nat → Int32) → Int32 → Option ((Nat → Int32) × (Nat → Int32) × (Nat → Int32))} {v1 : Int32} {v2 : Int32} {v3 : Int32} {v4 : Int32} (hr6 : ∀ (z_q_least : Nat → Int32) (z_q_made : Nat → Int32) (y3 : Int32), rec6 z_q_least z_q_made y3 = some r → mm_Wp mX8_makeBoxes (mm_R (P_X8_makeBoxes q_textSize q_cursor q_start q_token q_number q_word q_fault q_line q_foundPains q_foundLine q_deadMany q_deadSize q_deadLeast q_deadMost q_st q_before q_kept q_isKept q_refused q_text q_ones q_said q_enough q_isWanted q_column q_foundColumn q_walls q_wallMany q_chosen r)) 0 0 6 [(0, .ref 0), (1, .int v1), (2, .int v2), (3, .int y3)] [] (W_X8 q_textSize q_cursor q_start q_token q_number q_word q_fault q_line q_foundPains q_foundLine q_deadMany q_deadSize q_deadLeast q_deadMost q_st q_before q_kept q_isKept q_refused q_text q_ones q_said q_readTable z_q_least z_q_made q_enough q_isWanted q_column q_foundColumn q_walls q_wallMany q_chosen)) (hr17 : ∀ (z_q_least : Nat → Int32) (z_q_made : Nat → Int32) (y4 : Int32), rec17 z_q_least z_q_made y4 = some r → mm_Wp mX8_makeBoxes (mm_R (P_X8_makeBoxes q_textSize q_cursor q_start q_token q_number q_word q_fault q_line q_foundPains q_foundLine q_deadMany q_deadSize q_deadLeast q_deadMost q_st q_before q_kept q_isKept q_refused q_text q_ones q_said q_enough q_isWanted q_column q_foundColumn q_walls q_wallMany q_chosen r)) 0 0 17 [(0, .ref 0), (1, .int v1), (2, .int v2), (3, .int v3), (4, .int y4)] [] (W_X8 q_textSize q_cursor q_start q_token q_number q_word q_fault q_line q_foundPains q_foundLine q_deadMany q_deadSize q_deadLeast q_deadMost q_st q_before q_kept q_isKept q_refused q_text q_ones q_said q_readTable z_q_least z_q_made q_enough q_isWanted q_column q_foundColumn q_walls q_wallMany q_chosen)) (h : X8_makeBoxes_J42 fu rec6 rec17 q_st q_ones q_readTable q_least q_made v1 v2 v3 v4 = some r) : mm_Wp mX8_makeBoxes (mm_R (P_X8_makeBoxes q_textSize q_cursor q_start q_token q_number q_word q_fault q_line q_foundPains q_foundLine q_deadMany q_deadSize q_deadLeast q_deadMost q_st q_before q_kept q_isKept q_refused q_text q_ones q_said q_enough q_isWanted q_column q_foundColumn q_walls q_wallMany q_chosen r)) 0 0 42 [(0, .ref 0), (1, .int v1), (2, .int v2), (3, .int v3), (4, .int v4)] [] (W_X8 q_textSize q_cursor q_start q_token q_number q_word q_fault q_line q_foundPains q_foundLine q_deadMany q_deadSize q_deadLeast q_deadMost q_st q_before q_kept q_isKept q_refused q_text q_ones q_said q_readTable q_least q_made q_enough q_isWanted q_column q_foundColumn q_walls q_wallMany q_chosen) := by
  rw [X8_makeBoxes_J42] at h
  refine mm_iinc 4 dX8_makeBoxes_42 rfl ki_1 (by decide) (l' := [(4, .int (v4 + (1 : Int32))), (0, .ref 0), (1, .int v1), (2, .int v2), (3, .int v3)]) rfl (pc' := 45) rfl ?_
  refine mm_goto (tgt := 17) dX8_makeBoxes_45 (by decide) ?_
  exact mm_sub [1, 2, 3, 4, 0] rfl (hr17 _ _ _ h)
def X8_makeBoxes_L17 (fu : Nat) (rec6 : (Nat → Int32) → (Nat → Int32) → Int32 → Option ((Nat → Int32) × (Nat → Int32) × (Nat → Int32))) (q_st : Nat → Int32) (q_ones : Nat → Int32) (q_readTable : Nat → Int32) (v1 : Int32) (v2 : Int32) (v3 : Int32) : Nat → (Nat → Int32) → (Nat → Int32) → Int32 → Option ((Nat → Int32) × (Nat → Int32) × (Nat → Int32))
  | 0, _, _, _ => none
  | n + 1, q_least, q_made, v4 => if (24 : Int32) ≤ v4 then (rec6 q_least q_made (v3 + (1 : Int32))) else ((f_X8_isBox fu q_st v4).bind fun t27 => if t27 = 0 then (X8_makeBoxes_J42 fu rec6 (X8_makeBoxes_L17 fu rec6 q_st q_ones q_readTable v1 v2 v3 n) q_st q_ones q_readTable q_least q_made v1 v2 v3 v4) else ((f_X8_makeBox fu q_st q_readTable q_least q_made v1 v2 v3 v4).bind fun t39 => X8_makeBoxes_J42 fu rec6 (X8_makeBoxes_L17 fu rec6 q_st q_ones q_readTable v1 v2 v3 n) q_st q_ones q_readTable t39.1 t39.2 v1 v2 v3 v4))
set_option maxHeartbeats 4000000 in
set_option maxRecDepth 100000 in
theorem s_X8_makeBoxes_L17 {fu : Nat} {q_textSize : Int32} {q_cursor : Int32} {q_start : Int32} {q_token : Int32} {q_number : Int32} {q_word : Int64} {q_fault : Int32} {q_line : Int32} {q_foundPains : Int32} {q_foundLine : Int32} {q_deadMany : Int32} {q_deadSize : Int32} {q_deadLeast : Int32} {q_deadMost : Int32} {q_st : Nat → Int32} {q_before : Nat → Int32} {q_kept : Nat → Int32} {q_isKept : Nat → Int32} {q_refused : Nat → Int32} {q_text : Nat → Int32} {q_ones : Nat → Int32} {q_said : Nat → Int32} {q_readTable : Nat → Int32} {q_enough : Nat → Int32} {q_isWanted : Nat → Int32} {q_column : Nat → Int32} {q_foundColumn : Nat → Int32} {q_walls : Nat → Int64} {q_wallMany : Nat → Int32} {q_chosen : Nat → Int32} {r : (Nat → Int32) × (Nat → Int32) × (Nat → Int32)} {rec6 : (Nat → Int32) → (Nat → Int32) → Int32 → Option ((Nat → Int32) × (Nat → Int32) × (Nat → Int32))} {v1 : Int32} {v2 : Int32} {v3 : Int32} (hr6 : ∀ (z_q_least : Nat → Int32) (z_q_made : Nat → Int32) (y3 : Int32), rec6 z_q_least z_q_made y3 = some r → mm_Wp mX8_makeBoxes (mm_R (P_X8_makeBoxes q_textSize q_cursor q_start q_token q_number q_word q_fault q_line q_foundPains q_foundLine q_deadMany q_deadSize q_deadLeast q_deadMost q_st q_before q_kept q_isKept q_refused q_text q_ones q_said q_enough q_isWanted q_column q_foundColumn q_walls q_wallMany q_chosen r)) 0 0 6 [(0, .ref 0), (1, .int v1), (2, .int v2), (3, .int y3)] [] (W_X8 q_textSize q_cursor q_start q_token q_number q_word q_fault q_line q_foundPains q_foundLine q_deadMany q_deadSize q_deadLeast q_deadMost q_st q_before q_kept q_isKept q_refused q_text q_ones q_said q_readTable z_q_least z_q_made q_enough q_isWanted q_column q_foundColumn q_walls q_wallMany q_chosen)) : ∀ (n : Nat) (q_least : Nat → Int32) (q_made : Nat → Int32) (v4 : Int32), X8_makeBoxes_L17 fu rec6 q_st q_ones q_readTable v1 v2 v3 n q_least q_made v4 = some r → mm_Wp mX8_makeBoxes (mm_R (P_X8_makeBoxes q_textSize q_cursor q_start q_token q_number q_word q_fault q_line q_foundPains q_foundLine q_deadMany q_deadSize q_deadLeast q_deadMost q_st q_before q_kept q_isKept q_refused q_text q_ones q_said q_enough q_isWanted q_column q_foundColumn q_walls q_wallMany q_chosen r)) 0 0 17 [(0, .ref 0), (1, .int v1), (2, .int v2), (3, .int v3), (4, .int v4)] [] (W_X8 q_textSize q_cursor q_start q_token q_number q_word q_fault q_line q_foundPains q_foundLine q_deadMany q_deadSize q_deadLeast q_deadMost q_st q_before q_kept q_isKept q_refused q_text q_ones q_said q_readTable q_least q_made q_enough q_isWanted q_column q_foundColumn q_walls q_wallMany q_chosen) := by
  intro n
  induction n with
  | zero =>
    intro q_least q_made v4 h
    rw [X8_makeBoxes_L17] at h
    cases h
  | succ n hr17 =>
    intro q_least q_made v4 h
    rw [X8_makeBoxes_L17] at h
    refine mm_iload 4 dX8_makeBoxes_17 rfl (pc' := 19) rfl ?_
    refine mm_bipush dX8_makeBoxes_19 kb_24 (pc' := 21) rfl ?_
    refine mm_icmp_ge (tgt := 48) dX8_makeBoxes_21 (by decide) (pc' := 24) rfl (fun c => ?_) (fun c => ?_)
    · replace h := mm_it h c
      clear c
      refine mm_iinc 3 dX8_makeBoxes_48 rfl ki_1 (by decide) (l' := [(3, .int (v3 + (1 : Int32))), (0, .ref 0), (1, .int v1), (2, .int v2), (4, .int v4)]) rfl (pc' := 51) rfl ?_
      refine mm_goto (tgt := 6) dX8_makeBoxes_51 (by decide) ?_
      exact mm_sub [1, 2, 3, 0] rfl (hr6 _ _ _ h)
    · replace h := mm_if h c
      clear c
      refine mm_aload_n 0 dX8_makeBoxes_24 rfl rfl (pc' := 25) rfl ?_
      refine mm_iload 4 dX8_makeBoxes_25 rfl (pc' := 27) rfl ?_
      obtain ⟨t27, h27, h⟩ := mm_bd h
      refine mm_call0 (As := [.int v4]) (rest := []) cV_X8_189 (ok_X8_isBox h27) ⟨rfl, rfl, Nat.le_of_ble_eq_true rfl, Nat.le_of_ble_eq_true rfl⟩ dX8_makeBoxes_27 rfl rfl rfl rfl (by rintro _ _ ⟨-, rfl⟩; rfl) (Nat.le_of_ble_eq_true rfl) ⟨Nat.le_of_ble_eq_true rfl, Nat.le_of_ble_eq_true rfl⟩ (pc' := 30) rfl ?_
      rintro rv w ⟨rfl, rfl⟩
      show mm_Wp _ _ _ _ 30 [(0, .ref 0), (1, .int v1), (2, .int v2), (3, .int v3), (4, .int v4)] [.int t27] (W_X8 q_textSize q_cursor q_start q_token q_number q_word q_fault q_line q_foundPains q_foundLine q_deadMany q_deadSize q_deadLeast q_deadMost q_st q_before q_kept q_isKept q_refused q_text q_ones q_said q_readTable q_least q_made q_enough q_isWanted q_column q_foundColumn q_walls q_wallMany q_chosen)
      clear h27
      refine mm_if_eq (tgt := 42) dX8_makeBoxes_30 (by decide) (pc' := 33) rfl (fun c => ?_) (fun c => ?_)
      · replace h := mm_it h c
        clear c
        exact s_X8_makeBoxes_J42 (hr6 := hr6) (hr17 := hr17) h
      · replace h := mm_if h c
        clear c
        refine mm_aload_n 0 dX8_makeBoxes_33 rfl rfl (pc' := 34) rfl ?_
        refine mm_iload_n 1 dX8_makeBoxes_34 rfl rfl (pc' := 35) rfl ?_
        refine mm_iload_n 2 dX8_makeBoxes_35 rfl rfl (pc' := 36) rfl ?_
        refine mm_iload_n 3 dX8_makeBoxes_36 rfl rfl (pc' := 37) rfl ?_
        refine mm_iload 4 dX8_makeBoxes_37 rfl (pc' := 39) rfl ?_
        obtain ⟨t39, h39, h⟩ := mm_bd h
        refine mm_call0 (As := [.int v1, .int v2, .int v3, .int v4]) (rest := []) cV_X8_208 (ok_X8_makeBox h39) ⟨rfl, rfl, Nat.le_of_ble_eq_true rfl, Nat.le_of_ble_eq_true rfl⟩ dX8_makeBoxes_39 rfl rfl rfl rfl (by rintro _ _ ⟨-, rfl⟩; rfl) (Nat.le_of_ble_eq_true rfl) ⟨Nat.le_of_ble_eq_true rfl, Nat.le_of_ble_eq_true rfl⟩ (pc' := 42) rfl ?_
        rintro rv w ⟨rfl, rfl⟩
        show mm_Wp _ _ _ _ 42 [(0, .ref 0), (1, .int v1), (2, .int v2), (3, .int v3), (4, .int v4)] [] (W_X8 q_textSize q_cursor q_start q_token q_number q_word q_fault q_line q_foundPains q_foundLine q_deadMany q_deadSize q_deadLeast q_deadMost q_st q_before q_kept q_isKept q_refused q_text q_ones q_said q_readTable t39.1 t39.2 q_enough q_isWanted q_column q_foundColumn q_walls q_wallMany q_chosen)
        clear h39
        exact s_X8_makeBoxes_J42 (hr6 := hr6) (hr17 := hr17) h
def X8_makeBoxes_L6 (fu : Nat)  (q_st : Nat → Int32) (q_ones : Nat → Int32) (q_readTable : Nat → Int32) (v1 : Int32) (v2 : Int32) : Nat → (Nat → Int32) → (Nat → Int32) → Int32 → Option ((Nat → Int32) × (Nat → Int32) × (Nat → Int32))
  | 0, _, _, _ => none
  | n + 1, q_least, q_made, v3 => (f_X8_longOf fu v1).bind fun t8 => if t8 ≤ v3 then (some (q_readTable, q_least, q_made)) else (X8_makeBoxes_L17 fu (X8_makeBoxes_L6 fu q_st q_ones q_readTable v1 v2 n) q_st q_ones q_readTable v1 v2 v3 fu q_least q_made (0 : Int32))
set_option maxHeartbeats 4000000 in
set_option maxRecDepth 100000 in
theorem s_X8_makeBoxes_L6 {fu : Nat} {q_textSize : Int32} {q_cursor : Int32} {q_start : Int32} {q_token : Int32} {q_number : Int32} {q_word : Int64} {q_fault : Int32} {q_line : Int32} {q_foundPains : Int32} {q_foundLine : Int32} {q_deadMany : Int32} {q_deadSize : Int32} {q_deadLeast : Int32} {q_deadMost : Int32} {q_st : Nat → Int32} {q_before : Nat → Int32} {q_kept : Nat → Int32} {q_isKept : Nat → Int32} {q_refused : Nat → Int32} {q_text : Nat → Int32} {q_ones : Nat → Int32} {q_said : Nat → Int32} {q_readTable : Nat → Int32} {q_enough : Nat → Int32} {q_isWanted : Nat → Int32} {q_column : Nat → Int32} {q_foundColumn : Nat → Int32} {q_walls : Nat → Int64} {q_wallMany : Nat → Int32} {q_chosen : Nat → Int32} {r : (Nat → Int32) × (Nat → Int32) × (Nat → Int32)} {v1 : Int32} {v2 : Int32} : ∀ (n : Nat) (q_least : Nat → Int32) (q_made : Nat → Int32) (v3 : Int32), X8_makeBoxes_L6 fu q_st q_ones q_readTable v1 v2 n q_least q_made v3 = some r → mm_Wp mX8_makeBoxes (mm_R (P_X8_makeBoxes q_textSize q_cursor q_start q_token q_number q_word q_fault q_line q_foundPains q_foundLine q_deadMany q_deadSize q_deadLeast q_deadMost q_st q_before q_kept q_isKept q_refused q_text q_ones q_said q_enough q_isWanted q_column q_foundColumn q_walls q_wallMany q_chosen r)) 0 0 6 [(0, .ref 0), (1, .int v1), (2, .int v2), (3, .int v3)] [] (W_X8 q_textSize q_cursor q_start q_token q_number q_word q_fault q_line q_foundPains q_foundLine q_deadMany q_deadSize q_deadLeast q_deadMost q_st q_before q_kept q_isKept q_refused q_text q_ones q_said q_readTable q_least q_made q_enough q_isWanted q_column q_foundColumn q_walls q_wallMany q_chosen) := by
  intro n
  induction n with
  | zero =>
    intro q_least q_made v3 h
    rw [X8_makeBoxes_L6] at h
    cases h
  | succ n hr6 =>
    intro q_least q_made v3 h
    rw [X8_makeBoxes_L6] at h
    refine mm_iload_n 3 dX8_makeBoxes_6 rfl rfl (pc' := 7) rfl ?_
    refine mm_iload_n 1 dX8_makeBoxes_7 rfl rfl (pc' := 8) rfl ?_
    obtain ⟨t8, h8, h⟩ := mm_bd h
    refine mm_callS (As := [.int v1]) (rest := [.int v3]) (av := [.int v1]) (wc := []) (is := []) cS_X8_195 (ok_X8_longOf h8) ⟨rfl, rfl, Nat.le_of_ble_eq_true rfl, Nat.le_of_ble_eq_true rfl⟩ dX8_makeBoxes_8 rfl rfl rfl ⟨rfl, by decide, by decide⟩ (by rintro _ _ ⟨-, rfl⟩; rfl) (Nat.le_of_ble_eq_true rfl) ⟨Nat.le_of_ble_eq_true rfl, Nat.le_of_ble_eq_true rfl⟩ (pc' := 11) rfl ?_
    rintro rv w ⟨rfl, rfl⟩
    show mm_Wp _ _ _ _ 11 [(0, .ref 0), (1, .int v1), (2, .int v2), (3, .int v3)] [.int t8, .int v3] (W_X8 q_textSize q_cursor q_start q_token q_number q_word q_fault q_line q_foundPains q_foundLine q_deadMany q_deadSize q_deadLeast q_deadMost q_st q_before q_kept q_isKept q_refused q_text q_ones q_said q_readTable q_least q_made q_enough q_isWanted q_column q_foundColumn q_walls q_wallMany q_chosen)
    clear h8
    refine mm_icmp_ge (tgt := 54) dX8_makeBoxes_11 (by decide) (pc' := 14) rfl (fun c => ?_) (fun c => ?_)
    · replace h := mm_it h c
      clear c
      have h9 := Option.some.inj h
      subst h9
      exact mm_vret rfl dX8_makeBoxes_54 ⟨rfl, rfl⟩
    · replace h := mm_if h c
      clear c
      refine mm_iconst dX8_makeBoxes_14 ki_0 (pc' := 15) rfl ?_
      refine mm_istore dX8_makeBoxes_15 (by decide) (l' := [(4, .int (0 : Int32)), (0, .ref 0), (1, .int v1), (2, .int v2), (3, .int v3)]) rfl (pc' := 17) rfl ?_
      exact mm_sub [1, 2, 3, 4, 0] rfl (s_X8_makeBoxes_L17 (hr6 := hr6) _ _ _ _ h)
def f_X8_makeBoxes (fu : Nat) (q_st : Nat → Int32) (q_ones : Nat → Int32) (q_readTable : Nat → Int32) (q_least : Nat → Int32) (q_made : Nat → Int32) (v1 : Int32) (v2 : Int32) : Option ((Nat → Int32) × (Nat → Int32) × (Nat → Int32)) := (f_X8_findReads fu q_st q_ones q_readTable).bind fun t1 => X8_makeBoxes_L6 fu q_st q_ones t1 v1 v2 fu q_least q_made (0 : Int32)
set_option maxHeartbeats 4000000 in
set_option maxRecDepth 100000 in
theorem ok_X8_makeBoxes {fu : Nat} {q_textSize : Int32} {q_cursor : Int32} {q_start : Int32} {q_token : Int32} {q_number : Int32} {q_word : Int64} {q_fault : Int32} {q_line : Int32} {q_foundPains : Int32} {q_foundLine : Int32} {q_deadMany : Int32} {q_deadSize : Int32} {q_deadLeast : Int32} {q_deadMost : Int32} {q_st : Nat → Int32} {q_before : Nat → Int32} {q_kept : Nat → Int32} {q_isKept : Nat → Int32} {q_refused : Nat → Int32} {q_text : Nat → Int32} {q_ones : Nat → Int32} {q_said : Nat → Int32} {q_readTable : Nat → Int32} {q_least : Nat → Int32} {q_made : Nat → Int32} {q_enough : Nat → Int32} {q_isWanted : Nat → Int32} {q_column : Nat → Int32} {q_foundColumn : Nat → Int32} {q_walls : Nat → Int64} {q_wallMany : Nat → Int32} {q_chosen : Nat → Int32} {r : (Nat → Int32) × (Nat → Int32) × (Nat → Int32)} {v1 : Int32} {v2 : Int32} (h : f_X8_makeBoxes fu q_st q_ones q_readTable q_least q_made v1 v2 = some r) : mm_Ok mX8_makeBoxes [.ref 0, .int v1, .int v2] (W_X8 q_textSize q_cursor q_start q_token q_number q_word q_fault q_line q_foundPains q_foundLine q_deadMany q_deadSize q_deadLeast q_deadMost q_st q_before q_kept q_isKept q_refused q_text q_ones q_said q_readTable q_least q_made q_enough q_isWanted q_column q_foundColumn q_walls q_wallMany q_chosen) (P_X8_makeBoxes q_textSize q_cursor q_start q_token q_number q_word q_fault q_line q_foundPains q_foundLine q_deadMany q_deadSize q_deadLeast q_deadMost q_st q_before q_kept q_isKept q_refused q_text q_ones q_said q_enough q_isWanted q_column q_foundColumn q_walls q_wallMany q_chosen r) := by
  rw [f_X8_makeBoxes] at h
  refine mm_Ok.of pn_X8 (l := [(0, .ref 0), (1, .int v1), (2, .int v2)]) rfl (Nat.le_of_ble_eq_true rfl) ?_
  refine mm_aload_n 0 dX8_makeBoxes_0 rfl rfl (pc' := 1) rfl ?_
  obtain ⟨t1, h1, h⟩ := mm_bd h
  refine mm_call0 (As := []) (rest := []) cV_X8_205 (ok_X8_findReads h1) ⟨rfl, rfl, Nat.le_of_ble_eq_true rfl, Nat.le_of_ble_eq_true rfl⟩ dX8_makeBoxes_1 rfl rfl rfl rfl (by rintro _ _ ⟨-, rfl⟩; rfl) (Nat.le_of_ble_eq_true rfl) ⟨Nat.le_of_ble_eq_true rfl, Nat.le_of_ble_eq_true rfl⟩ (pc' := 4) rfl ?_
  rintro rv w ⟨rfl, rfl⟩
  show mm_Wp _ _ _ _ 4 [(0, .ref 0), (1, .int v1), (2, .int v2)] [] (W_X8 q_textSize q_cursor q_start q_token q_number q_word q_fault q_line q_foundPains q_foundLine q_deadMany q_deadSize q_deadLeast q_deadMost q_st q_before q_kept q_isKept q_refused q_text q_ones q_said t1 q_least q_made q_enough q_isWanted q_column q_foundColumn q_walls q_wallMany q_chosen)
  clear h1
  refine mm_iconst dX8_makeBoxes_4 ki_0 (pc' := 5) rfl ?_
  refine mm_istore_n dX8_makeBoxes_5 rfl (by decide) (l' := [(3, .int (0 : Int32)), (0, .ref 0), (1, .int v1), (2, .int v2)]) rfl (pc' := 6) rfl ?_
  exact mm_sub [1, 2, 3, 0] rfl (s_X8_makeBoxes_L6  _ _ _ _ h)

def P_X8_firstRow (q_textSize : Int32) (q_cursor : Int32) (q_start : Int32) (q_token : Int32) (q_number : Int32) (q_word : Int64) (q_fault : Int32) (q_foundPains : Int32) (q_foundLine : Int32) (q_deadMany : Int32) (q_deadSize : Int32) (q_deadLeast : Int32) (q_deadMost : Int32) (q_st : Nat → Int32) (q_before : Nat → Int32) (q_kept : Nat → Int32) (q_isKept : Nat → Int32) (q_refused : Nat → Int32) (q_text : Nat → Int32) (q_ones : Nat → Int32) (q_said : Nat → Int32) (q_readTable : Nat → Int32) (q_least : Nat → Int32) (q_made : Nat → Int32) (q_enough : Nat → Int32) (q_isWanted : Nat → Int32) (q_foundColumn : Nat → Int32) (q_walls : Nat → Int64) (q_wallMany : Nat → Int32) (q_chosen : Nat → Int32) (r : Int32 × (Nat → Int32)) : Option Value → mm_W → Prop := fun rv w => rv = none ∧ w = (W_X8 q_textSize q_cursor q_start q_token q_number q_word q_fault r.1 q_foundPains q_foundLine q_deadMany q_deadSize q_deadLeast q_deadMost q_st q_before q_kept q_isKept q_refused q_text q_ones q_said q_readTable q_least q_made q_enough q_isWanted r.2 q_foundColumn q_walls q_wallMany q_chosen)
def X8_firstRow_L7 (fu : Nat)  (q_line : Int32) (v1 : Int32) : Nat → (Nat → Int32) → Int32 → Option (Int32 × (Nat → Int32))
  | 0, _, _ => none
  | n + 1, q_column, v2 => (f_X8_longOf fu v1).bind fun t9 => if t9 ≤ v2 then (some (q_line, q_column)) else (mm_ck 3 v2 ((X8_firstRow_L7 fu q_line v1 n) (upd q_column v2.toNatClampNeg ((4 : Int32) * v2)) (v2 + (1 : Int32))))
set_option maxHeartbeats 4000000 in
set_option maxRecDepth 100000 in
theorem s_X8_firstRow_L7 {fu : Nat} {q_textSize : Int32} {q_cursor : Int32} {q_start : Int32} {q_token : Int32} {q_number : Int32} {q_word : Int64} {q_fault : Int32} {q_line : Int32} {q_foundPains : Int32} {q_foundLine : Int32} {q_deadMany : Int32} {q_deadSize : Int32} {q_deadLeast : Int32} {q_deadMost : Int32} {q_st : Nat → Int32} {q_before : Nat → Int32} {q_kept : Nat → Int32} {q_isKept : Nat → Int32} {q_refused : Nat → Int32} {q_text : Nat → Int32} {q_ones : Nat → Int32} {q_said : Nat → Int32} {q_readTable : Nat → Int32} {q_least : Nat → Int32} {q_made : Nat → Int32} {q_enough : Nat → Int32} {q_isWanted : Nat → Int32} {q_foundColumn : Nat → Int32} {q_walls : Nat → Int64} {q_wallMany : Nat → Int32} {q_chosen : Nat → Int32} {r : Int32 × (Nat → Int32)} {v1 : Int32} : ∀ (n : Nat) (q_column : Nat → Int32) (v2 : Int32), X8_firstRow_L7 fu q_line v1 n q_column v2 = some r → mm_Wp mX8_firstRow (mm_R (P_X8_firstRow q_textSize q_cursor q_start q_token q_number q_word q_fault q_foundPains q_foundLine q_deadMany q_deadSize q_deadLeast q_deadMost q_st q_before q_kept q_isKept q_refused q_text q_ones q_said q_readTable q_least q_made q_enough q_isWanted q_foundColumn q_walls q_wallMany q_chosen r)) 0 0 7 [(0, .ref 0), (1, .int v1), (2, .int v2)] [] (W_X8 q_textSize q_cursor q_start q_token q_number q_word q_fault q_line q_foundPains q_foundLine q_deadMany q_deadSize q_deadLeast q_deadMost q_st q_before q_kept q_isKept q_refused q_text q_ones q_said q_readTable q_least q_made q_enough q_isWanted q_column q_foundColumn q_walls q_wallMany q_chosen) := by
  intro n
  induction n with
  | zero =>
    intro q_column v2 h
    rw [X8_firstRow_L7] at h
    cases h
  | succ n hr7 =>
    intro q_column v2 h
    rw [X8_firstRow_L7] at h
    refine mm_iload_n 2 dX8_firstRow_7 rfl rfl (pc' := 8) rfl ?_
    refine mm_iload_n 1 dX8_firstRow_8 rfl rfl (pc' := 9) rfl ?_
    obtain ⟨t9, h9, h⟩ := mm_bd h
    refine mm_callS (As := [.int v1]) (rest := [.int v2]) (av := [.int v1]) (wc := []) (is := []) cS_X8_195 (ok_X8_longOf h9) ⟨rfl, rfl, Nat.le_of_ble_eq_true rfl, Nat.le_of_ble_eq_true rfl⟩ dX8_firstRow_9 rfl rfl rfl ⟨rfl, by decide, by decide⟩ (by rintro _ _ ⟨-, rfl⟩; rfl) (Nat.le_of_ble_eq_true rfl) ⟨Nat.le_of_ble_eq_true rfl, Nat.le_of_ble_eq_true rfl⟩ (pc' := 12) rfl ?_
    rintro rv w ⟨rfl, rfl⟩
    show mm_Wp _ _ _ _ 12 [(0, .ref 0), (1, .int v1), (2, .int v2)] [.int t9, .int v2] (W_X8 q_textSize q_cursor q_start q_token q_number q_word q_fault q_line q_foundPains q_foundLine q_deadMany q_deadSize q_deadLeast q_deadMost q_st q_before q_kept q_isKept q_refused q_text q_ones q_said q_readTable q_least q_made q_enough q_isWanted q_column q_foundColumn q_walls q_wallMany q_chosen)
    clear h9
    refine mm_icmp_ge (tgt := 30) dX8_firstRow_12 (by decide) (pc' := 15) rfl (fun c => ?_) (fun c => ?_)
    · replace h := mm_it h c
      clear c
      have h9 := Option.some.inj h
      subst h9
      exact mm_vret rfl dX8_firstRow_30 ⟨rfl, rfl⟩
    · replace h := mm_if h c
      clear c
      refine mm_aload_n 0 dX8_firstRow_15 rfl rfl (pc' := 16) rfl ?_
      refine mm_getf fG_X8_50 dX8_firstRow_16 rfl rfl (pc' := 19) rfl ?_
      refine mm_iload_n 2 dX8_firstRow_19 rfl rfl (pc' := 20) rfl ?_
      refine mm_iconst dX8_firstRow_20 ki_4 (pc' := 21) rfl ?_
      refine mm_iload_n 2 dX8_firstRow_21 rfl rfl (pc' := 22) rfl ?_
      refine mm_imul dX8_firstRow_22 (pc' := 23) rfl ?_
      obtain ⟨c23, h⟩ := mm_ck_of h
      refine mm_iast dX8_firstRow_23 rfl c23 rfl (ws' := (W_X8 q_textSize q_cursor q_start q_token q_number q_word q_fault q_line q_foundPains q_foundLine q_deadMany q_deadSize q_deadLeast q_deadMost q_st q_before q_kept q_isKept q_refused q_text q_ones q_said q_readTable q_least q_made q_enough q_isWanted (upd q_column v2.toNatClampNeg ((4 : Int32) * v2)) q_foundColumn q_walls q_wallMany q_chosen)) rfl (pc' := 24) rfl ?_
      clear c23
      refine mm_iinc 2 dX8_firstRow_24 rfl ki_1 (by decide) (l' := [(2, .int (v2 + (1 : Int32))), (0, .ref 0), (1, .int v1)]) rfl (pc' := 27) rfl ?_
      refine mm_goto (tgt := 7) dX8_firstRow_27 (by decide) ?_
      exact mm_sub [1, 2, 0] rfl (hr7 _ _ h)
def f_X8_firstRow (fu : Nat) (q_line : Int32) (q_column : Nat → Int32) (v1 : Int32) : Option (Int32 × (Nat → Int32)) := X8_firstRow_L7 fu (0 : Int32) v1 fu q_column (0 : Int32)
set_option maxHeartbeats 4000000 in
set_option maxRecDepth 100000 in
theorem ok_X8_firstRow {fu : Nat} {q_textSize : Int32} {q_cursor : Int32} {q_start : Int32} {q_token : Int32} {q_number : Int32} {q_word : Int64} {q_fault : Int32} {q_line : Int32} {q_foundPains : Int32} {q_foundLine : Int32} {q_deadMany : Int32} {q_deadSize : Int32} {q_deadLeast : Int32} {q_deadMost : Int32} {q_st : Nat → Int32} {q_before : Nat → Int32} {q_kept : Nat → Int32} {q_isKept : Nat → Int32} {q_refused : Nat → Int32} {q_text : Nat → Int32} {q_ones : Nat → Int32} {q_said : Nat → Int32} {q_readTable : Nat → Int32} {q_least : Nat → Int32} {q_made : Nat → Int32} {q_enough : Nat → Int32} {q_isWanted : Nat → Int32} {q_column : Nat → Int32} {q_foundColumn : Nat → Int32} {q_walls : Nat → Int64} {q_wallMany : Nat → Int32} {q_chosen : Nat → Int32} {r : Int32 × (Nat → Int32)} {v1 : Int32} (h : f_X8_firstRow fu q_line q_column v1 = some r) : mm_Ok mX8_firstRow [.ref 0, .int v1] (W_X8 q_textSize q_cursor q_start q_token q_number q_word q_fault q_line q_foundPains q_foundLine q_deadMany q_deadSize q_deadLeast q_deadMost q_st q_before q_kept q_isKept q_refused q_text q_ones q_said q_readTable q_least q_made q_enough q_isWanted q_column q_foundColumn q_walls q_wallMany q_chosen) (P_X8_firstRow q_textSize q_cursor q_start q_token q_number q_word q_fault q_foundPains q_foundLine q_deadMany q_deadSize q_deadLeast q_deadMost q_st q_before q_kept q_isKept q_refused q_text q_ones q_said q_readTable q_least q_made q_enough q_isWanted q_foundColumn q_walls q_wallMany q_chosen r) := by
  rw [f_X8_firstRow] at h
  refine mm_Ok.of pn_X8 (l := [(0, .ref 0), (1, .int v1)]) rfl (Nat.le_of_ble_eq_true rfl) ?_
  refine mm_aload_n 0 dX8_firstRow_0 rfl rfl (pc' := 1) rfl ?_
  refine mm_iconst dX8_firstRow_1 ki_0 (pc' := 2) rfl ?_
  refine mm_putf fP_X8_212 dX8_firstRow_2 rfl (Nat.le_of_ble_eq_true rfl) (fun _ => rfl) (fun _ => rfl) (ws' := (W_X8 q_textSize q_cursor q_start q_token q_number q_word q_fault (0 : Int32) q_foundPains q_foundLine q_deadMany q_deadSize q_deadLeast q_deadMost q_st q_before q_kept q_isKept q_refused q_text q_ones q_said q_readTable q_least q_made q_enough q_isWanted q_column q_foundColumn q_walls q_wallMany q_chosen)) rfl (pc' := 5) rfl ?_
  refine mm_iconst dX8_firstRow_5 ki_0 (pc' := 6) rfl ?_
  refine mm_istore_n dX8_firstRow_6 rfl (by decide) (l' := [(2, .int (0 : Int32)), (0, .ref 0), (1, .int v1)]) rfl (pc' := 7) rfl ?_
  exact mm_sub [1, 2, 0] rfl (s_X8_firstRow_L7  _ _ _ h)

def P_X8_isRow (q_textSize : Int32) (q_cursor : Int32) (q_start : Int32) (q_token : Int32) (q_number : Int32) (q_word : Int64) (q_fault : Int32) (q_line : Int32) (q_foundPains : Int32) (q_foundLine : Int32) (q_deadMany : Int32) (q_deadSize : Int32) (q_deadLeast : Int32) (q_deadMost : Int32) (q_st : Nat → Int32) (q_before : Nat → Int32) (q_kept : Nat → Int32) (q_isKept : Nat → Int32) (q_refused : Nat → Int32) (q_text : Nat → Int32) (q_ones : Nat → Int32) (q_said : Nat → Int32) (q_readTable : Nat → Int32) (q_least : Nat → Int32) (q_made : Nat → Int32) (q_enough : Nat → Int32) (q_isWanted : Nat → Int32) (q_column : Nat → Int32) (q_foundColumn : Nat → Int32) (q_walls : Nat → Int64) (q_wallMany : Nat → Int32) (q_chosen : Nat → Int32) (r : Int32) : Option Value → mm_W → Prop := fun rv w => rv = some (.int r) ∧ w = (W_X8 q_textSize q_cursor q_start q_token q_number q_word q_fault q_line q_foundPains q_foundLine q_deadMany q_deadSize q_deadLeast q_deadMost q_st q_before q_kept q_isKept q_refused q_text q_ones q_said q_readTable q_least q_made q_enough q_isWanted q_column q_foundColumn q_walls q_wallMany q_chosen)
def X8_isRow_J41 (fu : Nat)  (q_line : Int32) (q_st : Nat → Int32) (q_column : Nat → Int32)   : Option (Int32) := some ((0 : Int32))
set_option maxHeartbeats 4000000 in
set_option maxRecDepth 100000 in
theorem s_X8_isRow_J41 {fu : Nat} {q_textSize : Int32} {q_cursor : Int32} {q_start : Int32} {q_token : Int32} {q_number : Int32} {q_word : Int64} {q_fault : Int32} {q_line : Int32} {q_foundPains : Int32} {q_foundLine : Int32} {q_deadMany : Int32} {q_deadSize : Int32} {q_deadLeast : Int32} {q_deadMost : Int32} {q_st : Nat → Int32} {q_before : Nat → Int32} {q_kept : Nat → Int32} {q_isKept : Nat → Int32} {q_refused : Nat → Int32} {q_text : Nat → Int32} {q_ones : Nat → Int32} {q_said : Nat → Int32} {q_readTable : Nat → Int32} {q_least : Nat → Int32} {q_made : Nat → Int32} {q_enough : Nat → Int32} {q_isWanted : Nat → Int32} {q_column : Nat → Int32} {q_foundColumn : Nat → Int32} {q_walls : Nat → Int64} {q_wallMany : Nat → Int32} {q_chosen : Nat → Int32} {r : Int32} (h : X8_isRow_J41 fu q_line q_st q_column = some r) : mm_Wp mX8_isRow (mm_R (P_X8_isRow q_textSize q_cursor q_start q_token q_number q_word q_fault q_line q_foundPains q_foundLine q_deadMany q_deadSize q_deadLeast q_deadMost q_st q_before q_kept q_isKept q_refused q_text q_ones q_said q_readTable q_least q_made q_enough q_isWanted q_column q_foundColumn q_walls q_wallMany q_chosen r)) 0 0 41 [] [] (W_X8 q_textSize q_cursor q_start q_token q_number q_word q_fault q_line q_foundPains q_foundLine q_deadMany q_deadSize q_deadLeast q_deadMost q_st q_before q_kept q_isKept q_refused q_text q_ones q_said q_readTable q_least q_made q_enough q_isWanted q_column q_foundColumn q_walls q_wallMany q_chosen) := by
  rw [X8_isRow_J41] at h
  refine mm_iconst dX8_isRow_41 ki_0 (pc' := 42) rfl ?_
  have h9 := Option.some.inj h
  subst h9
  exact mm_zret rfl (by decide) dX8_isRow_42 ⟨rfl, rfl⟩
def f_X8_isRow (fu : Nat) (q_line : Int32) (q_st : Nat → Int32) (q_column : Nat → Int32) (v1 : Int32) : Option (Int32) := (f_X8_longOf fu v1).bind fun t5 => mm_rd q_column 3 (t5 - (1 : Int32)) fun x10 => if (q_st 0) ≤ (x10 + (2 : Int32)) then (X8_isRow_J41 fu q_line q_st q_column) else (if (q_st 1) ≤ (q_line + (3 : Int32)) then (X8_isRow_J41 fu q_line q_st q_column) else (some ((1 : Int32))))
set_option maxHeartbeats 4000000 in
set_option maxRecDepth 100000 in
theorem ok_X8_isRow {fu : Nat} {q_textSize : Int32} {q_cursor : Int32} {q_start : Int32} {q_token : Int32} {q_number : Int32} {q_word : Int64} {q_fault : Int32} {q_line : Int32} {q_foundPains : Int32} {q_foundLine : Int32} {q_deadMany : Int32} {q_deadSize : Int32} {q_deadLeast : Int32} {q_deadMost : Int32} {q_st : Nat → Int32} {q_before : Nat → Int32} {q_kept : Nat → Int32} {q_isKept : Nat → Int32} {q_refused : Nat → Int32} {q_text : Nat → Int32} {q_ones : Nat → Int32} {q_said : Nat → Int32} {q_readTable : Nat → Int32} {q_least : Nat → Int32} {q_made : Nat → Int32} {q_enough : Nat → Int32} {q_isWanted : Nat → Int32} {q_column : Nat → Int32} {q_foundColumn : Nat → Int32} {q_walls : Nat → Int64} {q_wallMany : Nat → Int32} {q_chosen : Nat → Int32} {r : Int32} {v1 : Int32} (h : f_X8_isRow fu q_line q_st q_column v1 = some r) : mm_Ok mX8_isRow [.ref 0, .int v1] (W_X8 q_textSize q_cursor q_start q_token q_number q_word q_fault q_line q_foundPains q_foundLine q_deadMany q_deadSize q_deadLeast q_deadMost q_st q_before q_kept q_isKept q_refused q_text q_ones q_said q_readTable q_least q_made q_enough q_isWanted q_column q_foundColumn q_walls q_wallMany q_chosen) (P_X8_isRow q_textSize q_cursor q_start q_token q_number q_word q_fault q_line q_foundPains q_foundLine q_deadMany q_deadSize q_deadLeast q_deadMost q_st q_before q_kept q_isKept q_refused q_text q_ones q_said q_readTable q_least q_made q_enough q_isWanted q_column q_foundColumn q_walls q_wallMany q_chosen r) := by
  rw [f_X8_isRow] at h
  refine mm_Ok.of pn_X8 (l := [(0, .ref 0), (1, .int v1)]) rfl (Nat.le_of_ble_eq_true rfl) ?_
  refine mm_aload_n 0 dX8_isRow_0 rfl rfl (pc' := 1) rfl ?_
  refine mm_getf fG_X8_50 dX8_isRow_1 rfl rfl (pc' := 4) rfl ?_
  refine mm_iload_n 1 dX8_isRow_4 rfl rfl (pc' := 5) rfl ?_
  obtain ⟨t5, h5, h⟩ := mm_bd h
  refine mm_callS (As := [.int v1]) (rest := [.ref 14]) (av := [.int v1]) (wc := []) (is := []) cS_X8_195 (ok_X8_longOf h5) ⟨rfl, rfl, Nat.le_of_ble_eq_true rfl, Nat.le_of_ble_eq_true rfl⟩ dX8_isRow_5 rfl rfl rfl ⟨rfl, by decide, by decide⟩ (by rintro _ _ ⟨-, rfl⟩; rfl) (Nat.le_of_ble_eq_true rfl) ⟨Nat.le_of_ble_eq_true rfl, Nat.le_of_ble_eq_true rfl⟩ (pc' := 8) rfl ?_
  rintro rv w ⟨rfl, rfl⟩
  show mm_Wp _ _ _ _ 8 [(0, .ref 0), (1, .int v1)] [.int t5, .ref 14] (W_X8 q_textSize q_cursor q_start q_token q_number q_word q_fault q_line q_foundPains q_foundLine q_deadMany q_deadSize q_deadLeast q_deadMost q_st q_before q_kept q_isKept q_refused q_text q_ones q_said q_readTable q_least q_made q_enough q_isWanted q_column q_foundColumn q_walls q_wallMany q_chosen)
  clear h5
  refine mm_iconst dX8_isRow_8 ki_1 (pc' := 9) rfl ?_
  refine mm_isub dX8_isRow_9 (pc' := 10) rfl ?_
  obtain ⟨x10, c10, e10, h⟩ := mm_rd_of h
  refine mm_iald dX8_isRow_10 rfl c10 e10 (pc' := 11) rfl ?_
  clear c10 e10
  refine mm_iconst dX8_isRow_11 ki_2 (pc' := 12) rfl ?_
  refine mm_iadd dX8_isRow_12 (pc' := 13) rfl ?_
  refine mm_aload_n 0 dX8_isRow_13 rfl rfl (pc' := 14) rfl ?_
  refine mm_getf fG_X8_7 dX8_isRow_14 rfl rfl (pc' := 17) rfl ?_
  refine mm_iconst dX8_isRow_17 ki_0 (pc' := 18) rfl ?_
  refine mm_iald dX8_isRow_18 rfl ki_0_354 (congrArg _ kt_0) (pc' := 19) rfl ?_
  refine mm_icmp_ge (tgt := 41) dX8_isRow_19 (by decide) (pc' := 22) rfl (fun c => ?_) (fun c => ?_)
  · replace h := mm_it h c
    clear c
    exact mm_sub [] rfl (s_X8_isRow_J41  h)
  · replace h := mm_if h c
    clear c
    refine mm_aload_n 0 dX8_isRow_22 rfl rfl (pc' := 23) rfl ?_
    refine mm_getf fG_X8_212 dX8_isRow_23 rfl rfl (pc' := 26) rfl ?_
    refine mm_iconst dX8_isRow_26 ki_3 (pc' := 27) rfl ?_
    refine mm_iadd dX8_isRow_27 (pc' := 28) rfl ?_
    refine mm_aload_n 0 dX8_isRow_28 rfl rfl (pc' := 29) rfl ?_
    refine mm_getf fG_X8_7 dX8_isRow_29 rfl rfl (pc' := 32) rfl ?_
    refine mm_iconst dX8_isRow_32 ki_1 (pc' := 33) rfl ?_
    refine mm_iald dX8_isRow_33 rfl ki_1_354 (congrArg _ kt_1) (pc' := 34) rfl ?_
    refine mm_icmp_ge (tgt := 41) dX8_isRow_34 (by decide) (pc' := 37) rfl (fun c => ?_) (fun c => ?_)
    · replace h := mm_it h c
      clear c
      exact mm_sub [] rfl (s_X8_isRow_J41  h)
    · replace h := mm_if h c
      clear c
      refine mm_iconst dX8_isRow_37 ki_1 (pc' := 38) rfl ?_
      refine mm_goto (tgt := 42) dX8_isRow_38 (by decide) ?_
      have h9 := Option.some.inj h
      subst h9
      exact mm_zret rfl (by decide) dX8_isRow_42 ⟨rfl, rfl⟩

def P_X8_nextRow (q_textSize : Int32) (q_cursor : Int32) (q_start : Int32) (q_token : Int32) (q_number : Int32) (q_word : Int64) (q_fault : Int32) (q_foundPains : Int32) (q_foundLine : Int32) (q_deadMany : Int32) (q_deadSize : Int32) (q_deadLeast : Int32) (q_deadMost : Int32) (q_st : Nat → Int32) (q_before : Nat → Int32) (q_kept : Nat → Int32) (q_isKept : Nat → Int32) (q_refused : Nat → Int32) (q_text : Nat → Int32) (q_ones : Nat → Int32) (q_said : Nat → Int32) (q_readTable : Nat → Int32) (q_least : Nat → Int32) (q_made : Nat → Int32) (q_enough : Nat → Int32) (q_isWanted : Nat → Int32) (q_foundColumn : Nat → Int32) (q_walls : Nat → Int64) (q_wallMany : Nat → Int32) (q_chosen : Nat → Int32) (r : Int32 × (Nat → Int32)) : Option Value → mm_W → Prop := fun rv w => rv = none ∧ w = (W_X8 q_textSize q_cursor q_start q_token q_number q_word q_fault r.1 q_foundPains q_foundLine q_deadMany q_deadSize q_deadLeast q_deadMost q_st q_before q_kept q_isKept q_refused q_text q_ones q_said q_readTable q_least q_made q_enough q_isWanted r.2 q_foundColumn q_walls q_wallMany q_chosen)
def X8_nextRow_J99 (fu : Nat)  (q_line : Int32) (q_st : Nat → Int32) (q_column : Nat → Int32) (v1 : Int32) (v3 : Int32)  : Option (Int32 × (Nat → Int32)) := if v3 = 0 then ((f_X8_firstRow fu q_line q_column v1).bind fun t113 => some (q_line + (1 : Int32), t113.2)) else (some (q_line, q_column))
set_option maxHeartbeats 4000000 in
set_option maxRecDepth 100000 in
theorem s_X8_nextRow_J99 {fu : Nat} {q_textSize : Int32} {q_cursor : Int32} {q_start : Int32} {q_token : Int32} {q_number : Int32} {q_word : Int64} {q_fault : Int32} {q_line : Int32} {q_foundPains : Int32} {q_foundLine : Int32} {q_deadMany : Int32} {q_deadSize : Int32} {q_deadLeast : Int32} {q_deadMost : Int32} {q_st : Nat → Int32} {q_before : Nat → Int32} {q_kept : Nat → Int32} {q_isKept : Nat → Int32} {q_refused : Nat → Int32} {q_text : Nat → Int32} {q_ones : Nat → Int32} {q_said : Nat → Int32} {q_readTable : Nat → Int32} {q_least : Nat → Int32} {q_made : Nat → Int32} {q_enough : Nat → Int32} {q_isWanted : Nat → Int32} {q_column : Nat → Int32} {q_foundColumn : Nat → Int32} {q_walls : Nat → Int64} {q_wallMany : Nat → Int32} {q_chosen : Nat → Int32} {r : Int32 × (Nat → Int32)} {v1 : Int32} {v3 : Int32} (h : X8_nextRow_J99 fu q_line q_st q_column v1 v3 = some r) : mm_Wp mX8_nextRow (mm_R (P_X8_nextRow q_textSize q_cursor q_start q_token q_number q_word q_fault q_foundPains q_foundLine q_deadMany q_deadSize q_deadLeast q_deadMost q_st q_before q_kept q_isKept q_refused q_text q_ones q_said q_readTable q_least q_made q_enough q_isWanted q_foundColumn q_walls q_wallMany q_chosen r)) 0 0 99 [(0, .ref 0), (1, .int v1), (3, .int v3)] [] (W_X8 q_textSize q_cursor q_start q_token q_number q_word q_fault q_line q_foundPains q_foundLine q_deadMany q_deadSize q_deadLeast q_deadMost q_st q_before q_kept q_isKept q_refused q_text q_ones q_said q_readTable q_least q_made q_enough q_isWanted q_column q_foundColumn q_walls q_wallMany q_chosen) := by
  rw [X8_nextRow_J99] at h
  refine mm_iload_n 2 dX8_nextRow_99 rfl rfl (pc' := 100) rfl ?_
  refine mm_if_ne (tgt := 122) dX8_nextRow_100 (by decide) (pc' := 103) rfl (fun c => ?_) (fun c => ?_)
  · replace h := mm_if h c
    clear c
    have h9 := Option.some.inj h
    subst h9
    exact mm_vret rfl dX8_nextRow_122 ⟨rfl, rfl⟩
  · replace h := mm_it h c
    clear c
    refine mm_aload_n 0 dX8_nextRow_103 rfl rfl (pc' := 104) rfl ?_
    refine mm_getf fG_X8_212 dX8_nextRow_104 rfl rfl (pc' := 107) rfl ?_
    refine mm_iconst dX8_nextRow_107 ki_1 (pc' := 108) rfl ?_
    refine mm_iadd dX8_nextRow_108 (pc' := 109) rfl ?_
    refine mm_istore dX8_nextRow_109 (by decide) (l' := [(4, .int (q_line + (1 : Int32))), (0, .ref 0), (1, .int v1), (3, .int v3)]) rfl (pc' := 111) rfl ?_
    refine mm_aload_n 1 dX8_nextRow_111 rfl rfl (pc' := 112) rfl ?_
    refine mm_iload_n 2 dX8_nextRow_112 rfl rfl (pc' := 113) rfl ?_
    obtain ⟨t113, h113, h⟩ := mm_bd h
    refine mm_call0 (As := [.int v1]) (rest := []) cV_X8_215 (ok_X8_firstRow h113) ⟨rfl, rfl, Nat.le_of_ble_eq_true rfl, Nat.le_of_ble_eq_true rfl⟩ dX8_nextRow_113 rfl rfl rfl rfl (by rintro _ _ ⟨-, rfl⟩; rfl) (Nat.le_of_ble_eq_true rfl) ⟨Nat.le_of_ble_eq_true rfl, Nat.le_of_ble_eq_true rfl⟩ (pc' := 116) rfl ?_
    rintro rv w ⟨rfl, rfl⟩
    show mm_Wp _ _ _ _ 116 [(4, .int (q_line + (1 : Int32))), (0, .ref 0), (1, .int v1), (3, .int v3)] [] (W_X8 q_textSize q_cursor q_start q_token q_number q_word q_fault t113.1 q_foundPains q_foundLine q_deadMany q_deadSize q_deadLeast q_deadMost q_st q_before q_kept q_isKept q_refused q_text q_ones q_said q_readTable q_least q_made q_enough q_isWanted t113.2 q_foundColumn q_walls q_wallMany q_chosen)
    clear h113
    refine mm_aload_n 1 dX8_nextRow_116 rfl rfl (pc' := 117) rfl ?_
    refine mm_iload 0 dX8_nextRow_117 rfl (pc' := 119) rfl ?_
    refine mm_putf fP_X8_212 dX8_nextRow_119 rfl (Nat.le_of_ble_eq_true rfl) (fun _ => rfl) (fun _ => rfl) (ws' := (W_X8 q_textSize q_cursor q_start q_token q_number q_word q_fault (q_line + (1 : Int32)) q_foundPains q_foundLine q_deadMany q_deadSize q_deadLeast q_deadMost q_st q_before q_kept q_isKept q_refused q_text q_ones q_said q_readTable q_least q_made q_enough q_isWanted t113.2 q_foundColumn q_walls q_wallMany q_chosen)) rfl (pc' := 122) rfl ?_
    have h9 := Option.some.inj h
    subst h9
    exact mm_vret rfl dX8_nextRow_122 ⟨rfl, rfl⟩
def X8_nextRow_J92 (fu : Nat) (rec12 : (Nat → Int32) → Int32 → Int32 → Option (Int32 × (Nat → Int32))) (q_line : Int32) (q_st : Nat → Int32) (q_column : Nat → Int32) (v1 : Int32) (v2 : Int32) (v4 : Int32) (s0 : Int32) : Option (Int32 × (Nat → Int32)) := rec12 q_column s0 (v4 + (-1 : Int32))
set_option maxHeartbeats 4000000 in
set_option maxRecDepth 100000 in
theorem s_X8_nextRow_J92 {fu : Nat} {q_textSize : Int32} {q_cursor : Int32} {q_start : Int32} {q_token : Int32} {q_number : Int32} {q_word : Int64} {q_fault : Int32} {q_line : Int32} {q_foundPains : Int32} {q_foundLine : Int32} {q_deadMany : Int32} {q_deadSize : Int32} {q_deadLeast : Int32} {q_deadMost : Int32} {q_st : Nat → Int32} {q_before : Nat → Int32} {q_kept : Nat → Int32} {q_isKept : Nat → Int32} {q_refused : Nat → Int32} {q_text : Nat → Int32} {q_ones : Nat → Int32} {q_said : Nat → Int32} {q_readTable : Nat → Int32} {q_least : Nat → Int32} {q_made : Nat → Int32} {q_enough : Nat → Int32} {q_isWanted : Nat → Int32} {q_column : Nat → Int32} {q_foundColumn : Nat → Int32} {q_walls : Nat → Int64} {q_wallMany : Nat → Int32} {q_chosen : Nat → Int32} {r : Int32 × (Nat → Int32)} {rec12 : (Nat → Int32) → Int32 → Int32 → Option (Int32 × (Nat → Int32))} {v1 : Int32} {v2 : Int32} {v4 : Int32} {s0 : Int32} (hr12 : ∀ (z_q_column : Nat → Int32) (y3 : Int32) (y4 : Int32), rec12 z_q_column y3 y4 = some r → mm_Wp mX8_nextRow (mm_R (P_X8_nextRow q_textSize q_cursor q_start q_token q_number q_word q_fault q_foundPains q_foundLine q_deadMany q_deadSize q_deadLeast q_deadMost q_st q_before q_kept q_isKept q_refused q_text q_ones q_said q_readTable q_least q_made q_enough q_isWanted q_foundColumn q_walls q_wallMany q_chosen r)) 0 0 12 [(0, .ref 0), (1, .int v1), (2, .int v2), (3, .int y3), (4, .int y4)] [] (W_X8 q_textSize q_cursor q_start q_token q_number q_word q_fault q_line q_foundPains q_foundLine q_deadMany q_deadSize q_deadLeast q_deadMost q_st q_before q_kept q_isKept q_refused q_text q_ones q_said q_readTable q_least q_made q_enough q_isWanted z_q_column q_foundColumn q_walls q_wallMany q_chosen)) (h : X8_nextRow_J92 fu rec12 q_line q_st q_column v1 v2 v4 s0 = some r) : mm_Wp mX8_nextRow (mm_R (P_X8_nextRow q_textSize q_cursor q_start q_token q_number q_word q_fault q_foundPains q_foundLine q_deadMany q_deadSize q_deadLeast q_deadMost q_st q_before q_kept q_isKept q_refused q_text q_ones q_said q_readTable q_least q_made q_enough q_isWanted q_foundColumn q_walls q_wallMany q_chosen r)) 0 0 92 [(0, .ref 0), (1, .int v1), (2, .int v2), (4, .int v4)] [.int s0] (W_X8 q_textSize q_cursor q_start q_token q_number q_word q_fault q_line q_foundPains q_foundLine q_deadMany q_deadSize q_deadLeast q_deadMost q_st q_before q_kept q_isKept q_refused q_text q_ones q_said q_readTable q_least q_made q_enough q_isWanted q_column q_foundColumn q_walls q_wallMany q_chosen) := by
  rw [X8_nextRow_J92] at h
  refine mm_istore_n dX8_nextRow_92 rfl (by decide) (l' := [(3, .int s0), (0, .ref 0), (1, .int v1), (2, .int v2), (4, .int v4)]) rfl (pc' := 93) rfl ?_
  refine mm_iinc 4 dX8_nextRow_93 rfl ki_m1 (by decide) (l' := [(4, .int (v4 + (-1 : Int32))), (3, .int s0), (0, .ref 0), (1, .int v1), (2, .int v2)]) rfl (pc' := 96) rfl ?_
  refine mm_goto (tgt := 12) dX8_nextRow_96 (by decide) ?_
  exact mm_sub [2, 3, 4, 1, 0] rfl (hr12 _ _ _ h)
def X8_nextRow_L38 (fu : Nat) (rec12 : (Nat → Int32) → Int32 → Int32 → Option (Int32 × (Nat → Int32))) (q_line : Int32) (q_st : Nat → Int32) (v1 : Int32) (v2 : Int32) (v4 : Int32) : Nat → (Nat → Int32) → Int32 → Option (Int32 × (Nat → Int32))
  | 0, _, _ => none
  | n + 1, q_column, v5 => if v2 ≤ v5 then (mm_rd q_column 3 (v2 - (1 : Int32)) fun x75 => if (q_st 0) ≤ (x75 + (2 : Int32)) then (X8_nextRow_J92 fu rec12 q_line q_st q_column v1 v2 v4 (0 : Int32)) else (X8_nextRow_J92 fu rec12 q_line q_st q_column v1 v2 v4 (1 : Int32))) else (mm_rd q_column 3 (v5 - (1 : Int32)) fun x58 => mm_ck 3 v5 ((X8_nextRow_L38 fu rec12 q_line q_st v1 v2 v4 n) (upd q_column v5.toNatClampNeg (x58 + (4 : Int32))) (v5 + (1 : Int32))))
set_option maxHeartbeats 4000000 in
set_option maxRecDepth 100000 in
theorem s_X8_nextRow_L38 {fu : Nat} {q_textSize : Int32} {q_cursor : Int32} {q_start : Int32} {q_token : Int32} {q_number : Int32} {q_word : Int64} {q_fault : Int32} {q_line : Int32} {q_foundPains : Int32} {q_foundLine : Int32} {q_deadMany : Int32} {q_deadSize : Int32} {q_deadLeast : Int32} {q_deadMost : Int32} {q_st : Nat → Int32} {q_before : Nat → Int32} {q_kept : Nat → Int32} {q_isKept : Nat → Int32} {q_refused : Nat → Int32} {q_text : Nat → Int32} {q_ones : Nat → Int32} {q_said : Nat → Int32} {q_readTable : Nat → Int32} {q_least : Nat → Int32} {q_made : Nat → Int32} {q_enough : Nat → Int32} {q_isWanted : Nat → Int32} {q_foundColumn : Nat → Int32} {q_walls : Nat → Int64} {q_wallMany : Nat → Int32} {q_chosen : Nat → Int32} {r : Int32 × (Nat → Int32)} {rec12 : (Nat → Int32) → Int32 → Int32 → Option (Int32 × (Nat → Int32))} {v1 : Int32} {v2 : Int32} {v4 : Int32} (hr12 : ∀ (z_q_column : Nat → Int32) (y3 : Int32) (y4 : Int32), rec12 z_q_column y3 y4 = some r → mm_Wp mX8_nextRow (mm_R (P_X8_nextRow q_textSize q_cursor q_start q_token q_number q_word q_fault q_foundPains q_foundLine q_deadMany q_deadSize q_deadLeast q_deadMost q_st q_before q_kept q_isKept q_refused q_text q_ones q_said q_readTable q_least q_made q_enough q_isWanted q_foundColumn q_walls q_wallMany q_chosen r)) 0 0 12 [(0, .ref 0), (1, .int v1), (2, .int v2), (3, .int y3), (4, .int y4)] [] (W_X8 q_textSize q_cursor q_start q_token q_number q_word q_fault q_line q_foundPains q_foundLine q_deadMany q_deadSize q_deadLeast q_deadMost q_st q_before q_kept q_isKept q_refused q_text q_ones q_said q_readTable q_least q_made q_enough q_isWanted z_q_column q_foundColumn q_walls q_wallMany q_chosen)) : ∀ (n : Nat) (q_column : Nat → Int32) (v5 : Int32), X8_nextRow_L38 fu rec12 q_line q_st v1 v2 v4 n q_column v5 = some r → mm_Wp mX8_nextRow (mm_R (P_X8_nextRow q_textSize q_cursor q_start q_token q_number q_word q_fault q_foundPains q_foundLine q_deadMany q_deadSize q_deadLeast q_deadMost q_st q_before q_kept q_isKept q_refused q_text q_ones q_said q_readTable q_least q_made q_enough q_isWanted q_foundColumn q_walls q_wallMany q_chosen r)) 0 0 38 [(0, .ref 0), (1, .int v1), (2, .int v2), (4, .int v4), (5, .int v5)] [] (W_X8 q_textSize q_cursor q_start q_token q_number q_word q_fault q_line q_foundPains q_foundLine q_deadMany q_deadSize q_deadLeast q_deadMost q_st q_before q_kept q_isKept q_refused q_text q_ones q_said q_readTable q_least q_made q_enough q_isWanted q_column q_foundColumn q_walls q_wallMany q_chosen) := by
  intro n
  induction n with
  | zero =>
    intro q_column v5 h
    rw [X8_nextRow_L38] at h
    cases h
  | succ n hr38 =>
    intro q_column v5 h
    rw [X8_nextRow_L38] at h
    refine mm_iload 4 dX8_nextRow_38 rfl (pc' := 40) rfl ?_
    refine mm_iload_n 2 dX8_nextRow_40 rfl rfl (pc' := 41) rfl ?_
    refine mm_icmp_ge (tgt := 68) dX8_nextRow_41 (by decide) (pc' := 44) rfl (fun c => ?_) (fun c => ?_)
    · replace h := mm_it h c
      clear c
      refine mm_aload_n 0 dX8_nextRow_68 rfl rfl (pc' := 69) rfl ?_
      refine mm_getf fG_X8_50 dX8_nextRow_69 rfl rfl (pc' := 72) rfl ?_
      refine mm_iload_n 2 dX8_nextRow_72 rfl rfl (pc' := 73) rfl ?_
      refine mm_iconst dX8_nextRow_73 ki_1 (pc' := 74) rfl ?_
      refine mm_isub dX8_nextRow_74 (pc' := 75) rfl ?_
      obtain ⟨x75, c75, e75, h⟩ := mm_rd_of h
      refine mm_iald dX8_nextRow_75 rfl c75 e75 (pc' := 76) rfl ?_
      clear c75 e75
      refine mm_iconst dX8_nextRow_76 ki_2 (pc' := 77) rfl ?_
      refine mm_iadd dX8_nextRow_77 (pc' := 78) rfl ?_
      refine mm_aload_n 0 dX8_nextRow_78 rfl rfl (pc' := 79) rfl ?_
      refine mm_getf fG_X8_7 dX8_nextRow_79 rfl rfl (pc' := 82) rfl ?_
      refine mm_iconst dX8_nextRow_82 ki_0 (pc' := 83) rfl ?_
      refine mm_iald dX8_nextRow_83 rfl ki_0_354 (congrArg _ kt_0) (pc' := 84) rfl ?_
      refine mm_icmp_ge (tgt := 91) dX8_nextRow_84 (by decide) (pc' := 87) rfl (fun c => ?_) (fun c => ?_)
      · replace h := mm_it h c
        clear c
        refine mm_iconst dX8_nextRow_91 ki_0 (pc' := 92) rfl ?_
        exact mm_sub [0, 1, 2, 3] rfl (s_X8_nextRow_J92 (hr12 := hr12) h)
      · replace h := mm_if h c
        clear c
        refine mm_iconst dX8_nextRow_87 ki_1 (pc' := 88) rfl ?_
        refine mm_goto (tgt := 92) dX8_nextRow_88 (by decide) ?_
        exact mm_sub [0, 1, 2, 3] rfl (s_X8_nextRow_J92 (hr12 := hr12) h)
    · replace h := mm_if h c
      clear c
      refine mm_aload_n 0 dX8_nextRow_44 rfl rfl (pc' := 45) rfl ?_
      refine mm_getf fG_X8_50 dX8_nextRow_45 rfl rfl (pc' := 48) rfl ?_
      refine mm_iload 4 dX8_nextRow_48 rfl (pc' := 50) rfl ?_
      refine mm_aload_n 0 dX8_nextRow_50 rfl rfl (pc' := 51) rfl ?_
      refine mm_getf fG_X8_50 dX8_nextRow_51 rfl rfl (pc' := 54) rfl ?_
      refine mm_iload 4 dX8_nextRow_54 rfl (pc' := 56) rfl ?_
      refine mm_iconst dX8_nextRow_56 ki_1 (pc' := 57) rfl ?_
      refine mm_isub dX8_nextRow_57 (pc' := 58) rfl ?_
      obtain ⟨x58, c58, e58, h⟩ := mm_rd_of h
      refine mm_iald dX8_nextRow_58 rfl c58 e58 (pc' := 59) rfl ?_
      clear c58 e58
      refine mm_iconst dX8_nextRow_59 ki_4 (pc' := 60) rfl ?_
      refine mm_iadd dX8_nextRow_60 (pc' := 61) rfl ?_
      obtain ⟨c61, h⟩ := mm_ck_of h
      refine mm_iast dX8_nextRow_61 rfl c61 rfl (ws' := (W_X8 q_textSize q_cursor q_start q_token q_number q_word q_fault q_line q_foundPains q_foundLine q_deadMany q_deadSize q_deadLeast q_deadMost q_st q_before q_kept q_isKept q_refused q_text q_ones q_said q_readTable q_least q_made q_enough q_isWanted (upd q_column v5.toNatClampNeg (x58 + (4 : Int32))) q_foundColumn q_walls q_wallMany q_chosen)) rfl (pc' := 62) rfl ?_
      clear c61
      refine mm_iinc 4 dX8_nextRow_62 rfl ki_1 (by decide) (l' := [(5, .int (v5 + (1 : Int32))), (0, .ref 0), (1, .int v1), (2, .int v2), (4, .int v4)]) rfl (pc' := 65) rfl ?_
      refine mm_goto (tgt := 38) dX8_nextRow_65 (by decide) ?_
      exact mm_sub [1, 2, 3, 4, 0] rfl (hr38 _ _ h)
def X8_nextRow_L12 (fu : Nat)  (q_line : Int32) (q_st : Nat → Int32) (v1 : Int32) (v2 : Int32) : Nat → (Nat → Int32) → Int32 → Int32 → Option (Int32 × (Nat → Int32))
  | 0, _, _, _ => none
  | n + 1, q_column, v3, v4 => if v4 < 0 then (X8_nextRow_J99 fu q_line q_st q_column v1 v3) else (if v3 = 0 then (mm_rd q_column 3 v4 fun x28 => mm_ck 3 v4 (X8_nextRow_L38 fu (X8_nextRow_L12 fu q_line q_st v1 v2 n) q_line q_st v1 v2 v4 fu (upd q_column v4.toNatClampNeg (x28 + (1 : Int32))) (v4 + (1 : Int32)))) else (X8_nextRow_J99 fu q_line q_st q_column v1 v3))
set_option maxHeartbeats 4000000 in
set_option maxRecDepth 100000 in
theorem s_X8_nextRow_L12 {fu : Nat} {q_textSize : Int32} {q_cursor : Int32} {q_start : Int32} {q_token : Int32} {q_number : Int32} {q_word : Int64} {q_fault : Int32} {q_line : Int32} {q_foundPains : Int32} {q_foundLine : Int32} {q_deadMany : Int32} {q_deadSize : Int32} {q_deadLeast : Int32} {q_deadMost : Int32} {q_st : Nat → Int32} {q_before : Nat → Int32} {q_kept : Nat → Int32} {q_isKept : Nat → Int32} {q_refused : Nat → Int32} {q_text : Nat → Int32} {q_ones : Nat → Int32} {q_said : Nat → Int32} {q_readTable : Nat → Int32} {q_least : Nat → Int32} {q_made : Nat → Int32} {q_enough : Nat → Int32} {q_isWanted : Nat → Int32} {q_foundColumn : Nat → Int32} {q_walls : Nat → Int64} {q_wallMany : Nat → Int32} {q_chosen : Nat → Int32} {r : Int32 × (Nat → Int32)} {v1 : Int32} {v2 : Int32} : ∀ (n : Nat) (q_column : Nat → Int32) (v3 : Int32) (v4 : Int32), X8_nextRow_L12 fu q_line q_st v1 v2 n q_column v3 v4 = some r → mm_Wp mX8_nextRow (mm_R (P_X8_nextRow q_textSize q_cursor q_start q_token q_number q_word q_fault q_foundPains q_foundLine q_deadMany q_deadSize q_deadLeast q_deadMost q_st q_before q_kept q_isKept q_refused q_text q_ones q_said q_readTable q_least q_made q_enough q_isWanted q_foundColumn q_walls q_wallMany q_chosen r)) 0 0 12 [(0, .ref 0), (1, .int v1), (2, .int v2), (3, .int v3), (4, .int v4)] [] (W_X8 q_textSize q_cursor q_start q_token q_number q_word q_fault q_line q_foundPains q_foundLine q_deadMany q_deadSize q_deadLeast q_deadMost q_st q_before q_kept q_isKept q_refused q_text q_ones q_said q_readTable q_least q_made q_enough q_isWanted q_column q_foundColumn q_walls q_wallMany q_chosen) := by
  intro n
  induction n with
  | zero =>
    intro q_column v3 v4 h
    rw [X8_nextRow_L12] at h
    cases h
  | succ n hr12 =>
    intro q_column v3 v4 h
    rw [X8_nextRow_L12] at h
    refine mm_iload 4 dX8_nextRow_12 rfl (pc' := 14) rfl ?_
    refine mm_if_lt (tgt := 99) dX8_nextRow_14 (by decide) (pc' := 17) rfl (fun c => ?_) (fun c => ?_)
    · replace h := mm_it h c
      clear c
      exact mm_sub [0, 1, 3] rfl (s_X8_nextRow_J99  h)
    · replace h := mm_if h c
      clear c
      refine mm_iload_n 3 dX8_nextRow_17 rfl rfl (pc' := 18) rfl ?_
      refine mm_if_ne (tgt := 99) dX8_nextRow_18 (by decide) (pc' := 21) rfl (fun c => ?_) (fun c => ?_)
      · replace h := mm_if h c
        clear c
        exact mm_sub [0, 1, 3] rfl (s_X8_nextRow_J99  h)
      · replace h := mm_it h c
        clear c
        refine mm_aload_n 0 dX8_nextRow_21 rfl rfl (pc' := 22) rfl ?_
        refine mm_getf fG_X8_50 dX8_nextRow_22 rfl rfl (pc' := 25) rfl ?_
        refine mm_iload 4 dX8_nextRow_25 rfl (pc' := 27) rfl ?_
        refine mm_dup2 dX8_nextRow_27 rfl rfl (pc' := 28) rfl ?_
        obtain ⟨x28, c28, e28, h⟩ := mm_rd_of h
        refine mm_iald dX8_nextRow_28 rfl c28 e28 (pc' := 29) rfl ?_
        clear c28 e28
        refine mm_iconst dX8_nextRow_29 ki_1 (pc' := 30) rfl ?_
        refine mm_iadd dX8_nextRow_30 (pc' := 31) rfl ?_
        obtain ⟨c31, h⟩ := mm_ck_of h
        refine mm_iast dX8_nextRow_31 rfl c31 rfl (ws' := (W_X8 q_textSize q_cursor q_start q_token q_number q_word q_fault q_line q_foundPains q_foundLine q_deadMany q_deadSize q_deadLeast q_deadMost q_st q_before q_kept q_isKept q_refused q_text q_ones q_said q_readTable q_least q_made q_enough q_isWanted (upd q_column v4.toNatClampNeg (x28 + (1 : Int32))) q_foundColumn q_walls q_wallMany q_chosen)) rfl (pc' := 32) rfl ?_
        clear c31
        refine mm_iload 4 dX8_nextRow_32 rfl (pc' := 34) rfl ?_
        refine mm_iconst dX8_nextRow_34 ki_1 (pc' := 35) rfl ?_
        refine mm_iadd dX8_nextRow_35 (pc' := 36) rfl ?_
        refine mm_istore dX8_nextRow_36 (by decide) (l' := [(5, .int (v4 + (1 : Int32))), (0, .ref 0), (1, .int v1), (2, .int v2), (3, .int v3), (4, .int v4)]) rfl (pc' := 38) rfl ?_
        exact mm_sub [1, 2, 3, 5, 0] rfl (s_X8_nextRow_L38 (hr12 := hr12) _ _ _ h)
def f_X8_nextRow (fu : Nat) (q_line : Int32) (q_st : Nat → Int32) (q_column : Nat → Int32) (v1 : Int32) : Option (Int32 × (Nat → Int32)) := (f_X8_longOf fu v1).bind fun t1 => X8_nextRow_L12 fu q_line q_st v1 t1 fu q_column (0 : Int32) (t1 - (1 : Int32))
set_option maxHeartbeats 4000000 in
set_option maxRecDepth 100000 in
theorem ok_X8_nextRow {fu : Nat} {q_textSize : Int32} {q_cursor : Int32} {q_start : Int32} {q_token : Int32} {q_number : Int32} {q_word : Int64} {q_fault : Int32} {q_line : Int32} {q_foundPains : Int32} {q_foundLine : Int32} {q_deadMany : Int32} {q_deadSize : Int32} {q_deadLeast : Int32} {q_deadMost : Int32} {q_st : Nat → Int32} {q_before : Nat → Int32} {q_kept : Nat → Int32} {q_isKept : Nat → Int32} {q_refused : Nat → Int32} {q_text : Nat → Int32} {q_ones : Nat → Int32} {q_said : Nat → Int32} {q_readTable : Nat → Int32} {q_least : Nat → Int32} {q_made : Nat → Int32} {q_enough : Nat → Int32} {q_isWanted : Nat → Int32} {q_column : Nat → Int32} {q_foundColumn : Nat → Int32} {q_walls : Nat → Int64} {q_wallMany : Nat → Int32} {q_chosen : Nat → Int32} {r : Int32 × (Nat → Int32)} {v1 : Int32} (h : f_X8_nextRow fu q_line q_st q_column v1 = some r) : mm_Ok mX8_nextRow [.ref 0, .int v1] (W_X8 q_textSize q_cursor q_start q_token q_number q_word q_fault q_line q_foundPains q_foundLine q_deadMany q_deadSize q_deadLeast q_deadMost q_st q_before q_kept q_isKept q_refused q_text q_ones q_said q_readTable q_least q_made q_enough q_isWanted q_column q_foundColumn q_walls q_wallMany q_chosen) (P_X8_nextRow q_textSize q_cursor q_start q_token q_number q_word q_fault q_foundPains q_foundLine q_deadMany q_deadSize q_deadLeast q_deadMost q_st q_before q_kept q_isKept q_refused q_text q_ones q_said q_readTable q_least q_made q_enough q_isWanted q_foundColumn q_walls q_wallMany q_chosen r) := by
  rw [f_X8_nextRow] at h
  refine mm_Ok.of pn_X8 (l := [(0, .ref 0), (1, .int v1)]) rfl (Nat.le_of_ble_eq_true rfl) ?_
  refine mm_iload_n 1 dX8_nextRow_0 rfl rfl (pc' := 1) rfl ?_
  obtain ⟨t1, h1, h⟩ := mm_bd h
  refine mm_callS (As := [.int v1]) (rest := []) (av := [.int v1]) (wc := []) (is := []) cS_X8_195 (ok_X8_longOf h1) ⟨rfl, rfl, Nat.le_of_ble_eq_true rfl, Nat.le_of_ble_eq_true rfl⟩ dX8_nextRow_1 rfl rfl rfl ⟨rfl, by decide, by decide⟩ (by rintro _ _ ⟨-, rfl⟩; rfl) (Nat.le_of_ble_eq_true rfl) ⟨Nat.le_of_ble_eq_true rfl, Nat.le_of_ble_eq_true rfl⟩ (pc' := 4) rfl ?_
  rintro rv w ⟨rfl, rfl⟩
  show mm_Wp _ _ _ _ 4 [(0, .ref 0), (1, .int v1)] [.int t1] (W_X8 q_textSize q_cursor q_start q_token q_number q_word q_fault q_line q_foundPains q_foundLine q_deadMany q_deadSize q_deadLeast q_deadMost q_st q_before q_kept q_isKept q_refused q_text q_ones q_said q_readTable q_least q_made q_enough q_isWanted q_column q_foundColumn q_walls q_wallMany q_chosen)
  clear h1
  refine mm_istore_n dX8_nextRow_4 rfl (by decide) (l' := [(2, .int t1), (0, .ref 0), (1, .int v1)]) rfl (pc' := 5) rfl ?_
  refine mm_iconst dX8_nextRow_5 ki_0 (pc' := 6) rfl ?_
  refine mm_istore_n dX8_nextRow_6 rfl (by decide) (l' := [(3, .int (0 : Int32)), (2, .int t1), (0, .ref 0), (1, .int v1)]) rfl (pc' := 7) rfl ?_
  refine mm_iload_n 1 dX8_nextRow_7 rfl rfl (pc' := 8) rfl ?_
  refine mm_iconst dX8_nextRow_8 ki_1 (pc' := 9) rfl ?_
  refine mm_isub dX8_nextRow_9 (pc' := 10) rfl ?_
  refine mm_istore dX8_nextRow_10 (by decide) (l' := [(4, .int (t1 - (1 : Int32))), (3, .int (0 : Int32)), (2, .int t1), (0, .ref 0), (1, .int v1)]) rfl (pc' := 12) rfl ?_
  exact mm_sub [3, 4, 2, 1, 0] rfl (s_X8_nextRow_L12  _ _ _ _ h)

def P_X8_findWord (q_textSize : Int32) (q_cursor : Int32) (q_start : Int32) (q_token : Int32) (q_number : Int32) (q_word : Int64) (q_fault : Int32) (q_deadMany : Int32) (q_deadSize : Int32) (q_deadLeast : Int32) (q_deadMost : Int32) (q_st : Nat → Int32) (q_before : Nat → Int32) (q_kept : Nat → Int32) (q_isKept : Nat → Int32) (q_refused : Nat → Int32) (q_text : Nat → Int32) (q_ones : Nat → Int32) (q_said : Nat → Int32) (q_enough : Nat → Int32) (q_isWanted : Nat → Int32) (q_walls : Nat → Int64) (q_wallMany : Nat → Int32) (q_chosen : Nat → Int32) (r : Int32 × Int32 × Int32 × (Nat → Int32) × (Nat → Int32) × (Nat → Int32) × (Nat → Int32) × (Nat → Int32)) : Option Value → mm_W → Prop := fun rv w => rv = none ∧ w = (W_X8 q_textSize q_cursor q_start q_token q_number q_word q_fault r.1 r.2.1 r.2.2.1 q_deadMany q_deadSize q_deadLeast q_deadMost q_st q_before q_kept q_isKept q_refused q_text q_ones q_said r.2.2.2.1 r.2.2.2.2.1 r.2.2.2.2.2.1 q_enough q_isWanted r.2.2.2.2.2.2.1 r.2.2.2.2.2.2.2 q_walls q_wallMany q_chosen)
def X8_findWord_J155 (fu : Nat) (rec16 : Int32 → Int32 → Int32 → (Nat → Int32) → (Nat → Int32) → Option (Int32 × Int32 × Int32 × (Nat → Int32) × (Nat → Int32) × (Nat → Int32) × (Nat → Int32) × (Nat → Int32))) (q_line : Int32) (q_foundPains : Int32) (q_foundLine : Int32) (q_st : Nat → Int32) (q_ones : Nat → Int32) (q_readTable : Nat → Int32) (q_least : Nat → Int32) (q_made : Nat → Int32) (q_column : Nat → Int32) (q_foundColumn : Nat → Int32) (v1 : Int32)  : Option (Int32 × Int32 × Int32 × (Nat → Int32) × (Nat → Int32) × (Nat → Int32) × (Nat → Int32) × (Nat → Int32)) := (f_X8_nextRow fu q_line q_st q_column v1).bind fun t157 => rec16 t157.1 q_foundPains q_foundLine t157.2 q_foundColumn
set_option maxHeartbeats 4000000 in
set_option maxRecDepth 100000 in
theorem s_X8_findWord_J155 {fu : Nat} {q_textSize : Int32} {q_cursor : Int32} {q_start : Int32} {q_token : Int32} {q_number : Int32} {q_word : Int64} {q_fault : Int32} {q_line : Int32} {q_foundPains : Int32} {q_foundLine : Int32} {q_deadMany : Int32} {q_deadSize : Int32} {q_deadLeast : Int32} {q_deadMost : Int32} {q_st : Nat → Int32} {q_before : Nat → Int32} {q_kept : Nat → Int32} {q_isKept : Nat → Int32} {q_refused : Nat → Int32} {q_text : Nat → Int32} {q_ones : Nat → Int32} {q_said : Nat → Int32} {q_readTable : Nat → Int32} {q_least : Nat → Int32} {q_made : Nat → Int32} {q_enough : Nat → Int32} {q_isWanted : Nat → Int32} {q_column : Nat → Int32} {q_foundColumn : Nat → Int32} {q_walls : Nat → Int64} {q_wallMany : Nat → Int32} {q_chosen : Nat → Int32} {r : Int32 × Int32 × Int32 × (Nat → Int32) × (Nat → Int32) × (Nat → Int32) × (Nat → Int32) × (Nat → Int32)} {rec16 : Int32 → Int32 → Int32 → (Nat → Int32) → (Nat → Int32) → Option (Int32 × Int32 × Int32 × (Nat → Int32) × (Nat → Int32) × (Nat → Int32) × (Nat → Int32) × (Nat → Int32))} {v1 : Int32} (hr16 : ∀ (z_q_line : Int32) (z_q_foundPains : Int32) (z_q_foundLine : Int32) (z_q_column : Nat → Int32) (z_q_foundColumn : Nat → Int32), rec16 z_q_line z_q_foundPains z_q_foundLine z_q_column z_q_foundColumn = some r → mm_Wp mX8_findWord (mm_R (P_X8_findWord q_textSize q_cursor q_start q_token q_number q_word q_fault q_deadMany q_deadSize q_deadLeast q_deadMost q_st q_before q_kept q_isKept q_refused q_text q_ones q_said q_enough q_isWanted q_walls q_wallMany q_chosen r)) 0 0 16 [(0, .ref 0), (1, .int v1)] [] (W_X8 q_textSize q_cursor q_start q_token q_number q_word q_fault z_q_line z_q_foundPains z_q_foundLine q_deadMany q_deadSize q_deadLeast q_deadMost q_st q_before q_kept q_isKept q_refused q_text q_ones q_said q_readTable q_least q_made q_enough q_isWanted z_q_column z_q_foundColumn q_walls q_wallMany q_chosen)) (h : X8_findWord_J155 fu rec16 q_line q_foundPains q_foundLine q_st q_ones q_readTable q_least q_made q_column q_foundColumn v1 = some r) : mm_Wp mX8_findWord (mm_R (P_X8_findWord q_textSize q_cursor q_start q_token q_number q_word q_fault q_deadMany q_deadSize q_deadLeast q_deadMost q_st q_before q_kept q_isKept q_refused q_text q_ones q_said q_enough q_isWanted q_walls q_wallMany q_chosen r)) 0 0 155 [(0, .ref 0), (1, .int v1)] [] (W_X8 q_textSize q_cursor q_start q_token q_number q_word q_fault q_line q_foundPains q_foundLine q_deadMany q_deadSize q_deadLeast q_deadMost q_st q_before q_kept q_isKept q_refused q_text q_ones q_said q_readTable q_least q_made q_enough q_isWanted q_column q_foundColumn q_walls q_wallMany q_chosen) := by
  rw [X8_findWord_J155] at h
  refine mm_aload_n 0 dX8_findWord_155 rfl rfl (pc' := 156) rfl ?_
  refine mm_iload_n 1 dX8_findWord_156 rfl rfl (pc' := 157) rfl ?_
  obtain ⟨t157, h157, h⟩ := mm_bd h
  refine mm_call0 (As := [.int v1]) (rest := []) cV_X8_231 (ok_X8_nextRow h157) ⟨rfl, rfl, Nat.le_of_ble_eq_true rfl, Nat.le_of_ble_eq_true rfl⟩ dX8_findWord_157 rfl rfl rfl rfl (by rintro _ _ ⟨-, rfl⟩; rfl) (Nat.le_of_ble_eq_true rfl) ⟨Nat.le_of_ble_eq_true rfl, Nat.le_of_ble_eq_true rfl⟩ (pc' := 160) rfl ?_
  rintro rv w ⟨rfl, rfl⟩
  show mm_Wp _ _ _ _ 160 [(0, .ref 0), (1, .int v1)] [] (W_X8 q_textSize q_cursor q_start q_token q_number q_word q_fault t157.1 q_foundPains q_foundLine q_deadMany q_deadSize q_deadLeast q_deadMost q_st q_before q_kept q_isKept q_refused q_text q_ones q_said q_readTable q_least q_made q_enough q_isWanted t157.2 q_foundColumn q_walls q_wallMany q_chosen)
  clear h157
  refine mm_goto (tgt := 16) dX8_findWord_160 (by decide) ?_
  exact hr16 _ _ _ _ _ h
def X8_findWord_L129 (fu : Nat) (rec16 : Int32 → Int32 → Int32 → (Nat → Int32) → (Nat → Int32) → Option (Int32 × Int32 × Int32 × (Nat → Int32) × (Nat → Int32) × (Nat → Int32) × (Nat → Int32) × (Nat → Int32))) (q_line : Int32) (q_foundPains : Int32) (q_foundLine : Int32) (q_st : Nat → Int32) (q_ones : Nat → Int32) (q_readTable : Nat → Int32) (q_least : Nat → Int32) (q_made : Nat → Int32) (q_column : Nat → Int32) (v1 : Int32) : Nat → (Nat → Int32) → Int32 → Option (Int32 × Int32 × Int32 × (Nat → Int32) × (Nat → Int32) × (Nat → Int32) × (Nat → Int32) × (Nat → Int32))
  | 0, _, _ => none
  | n + 1, q_foundColumn, v4 => if (3 : Int32) ≤ v4 then (X8_findWord_J155 fu rec16 q_line q_foundPains q_foundLine q_st q_ones q_readTable q_least q_made q_column q_foundColumn v1) else (mm_rd q_column 3 v4 fun x147 => mm_ck 3 v4 ((X8_findWord_L129 fu rec16 q_line q_foundPains q_foundLine q_st q_ones q_readTable q_least q_made q_column v1 n) (upd q_foundColumn v4.toNatClampNeg x147) (v4 + (1 : Int32))))
set_option maxHeartbeats 4000000 in
set_option maxRecDepth 100000 in
theorem s_X8_findWord_L129 {fu : Nat} {q_textSize : Int32} {q_cursor : Int32} {q_start : Int32} {q_token : Int32} {q_number : Int32} {q_word : Int64} {q_fault : Int32} {q_line : Int32} {q_foundPains : Int32} {q_foundLine : Int32} {q_deadMany : Int32} {q_deadSize : Int32} {q_deadLeast : Int32} {q_deadMost : Int32} {q_st : Nat → Int32} {q_before : Nat → Int32} {q_kept : Nat → Int32} {q_isKept : Nat → Int32} {q_refused : Nat → Int32} {q_text : Nat → Int32} {q_ones : Nat → Int32} {q_said : Nat → Int32} {q_readTable : Nat → Int32} {q_least : Nat → Int32} {q_made : Nat → Int32} {q_enough : Nat → Int32} {q_isWanted : Nat → Int32} {q_column : Nat → Int32} {q_walls : Nat → Int64} {q_wallMany : Nat → Int32} {q_chosen : Nat → Int32} {r : Int32 × Int32 × Int32 × (Nat → Int32) × (Nat → Int32) × (Nat → Int32) × (Nat → Int32) × (Nat → Int32)} {rec16 : Int32 → Int32 → Int32 → (Nat → Int32) → (Nat → Int32) → Option (Int32 × Int32 × Int32 × (Nat → Int32) × (Nat → Int32) × (Nat → Int32) × (Nat → Int32) × (Nat → Int32))} {v1 : Int32} (hr16 : ∀ (z_q_line : Int32) (z_q_foundPains : Int32) (z_q_foundLine : Int32) (z_q_column : Nat → Int32) (z_q_foundColumn : Nat → Int32), rec16 z_q_line z_q_foundPains z_q_foundLine z_q_column z_q_foundColumn = some r → mm_Wp mX8_findWord (mm_R (P_X8_findWord q_textSize q_cursor q_start q_token q_number q_word q_fault q_deadMany q_deadSize q_deadLeast q_deadMost q_st q_before q_kept q_isKept q_refused q_text q_ones q_said q_enough q_isWanted q_walls q_wallMany q_chosen r)) 0 0 16 [(0, .ref 0), (1, .int v1)] [] (W_X8 q_textSize q_cursor q_start q_token q_number q_word q_fault z_q_line z_q_foundPains z_q_foundLine q_deadMany q_deadSize q_deadLeast q_deadMost q_st q_before q_kept q_isKept q_refused q_text q_ones q_said q_readTable q_least q_made q_enough q_isWanted z_q_column z_q_foundColumn q_walls q_wallMany q_chosen)) : ∀ (n : Nat) (q_foundColumn : Nat → Int32) (v4 : Int32), X8_findWord_L129 fu rec16 q_line q_foundPains q_foundLine q_st q_ones q_readTable q_least q_made q_column v1 n q_foundColumn v4 = some r → mm_Wp mX8_findWord (mm_R (P_X8_findWord q_textSize q_cursor q_start q_token q_number q_word q_fault q_deadMany q_deadSize q_deadLeast q_deadMost q_st q_before q_kept q_isKept q_refused q_text q_ones q_said q_enough q_isWanted q_walls q_wallMany q_chosen r)) 0 0 129 [(0, .ref 0), (1, .int v1), (4, .int v4)] [] (W_X8 q_textSize q_cursor q_start q_token q_number q_word q_fault q_line q_foundPains q_foundLine q_deadMany q_deadSize q_deadLeast q_deadMost q_st q_before q_kept q_isKept q_refused q_text q_ones q_said q_readTable q_least q_made q_enough q_isWanted q_column q_foundColumn q_walls q_wallMany q_chosen) := by
  intro n
  induction n with
  | zero =>
    intro q_foundColumn v4 h
    rw [X8_findWord_L129] at h
    cases h
  | succ n hr129 =>
    intro q_foundColumn v4 h
    rw [X8_findWord_L129] at h
    refine mm_iload 2 dX8_findWord_129 rfl (pc' := 131) rfl ?_
    refine mm_iconst dX8_findWord_131 ki_3 (pc' := 132) rfl ?_
    refine mm_icmp_ge (tgt := 155) dX8_findWord_132 (by decide) (pc' := 135) rfl (fun c => ?_) (fun c => ?_)
    · replace h := mm_it h c
      clear c
      exact mm_sub [0, 1] rfl (s_X8_findWord_J155 (hr16 := hr16) h)
    · replace h := mm_if h c
      clear c
      refine mm_aload_n 0 dX8_findWord_135 rfl rfl (pc' := 136) rfl ?_
      refine mm_getf fG_X8_53 dX8_findWord_136 rfl rfl (pc' := 139) rfl ?_
      refine mm_iload 2 dX8_findWord_139 rfl (pc' := 141) rfl ?_
      refine mm_aload_n 0 dX8_findWord_141 rfl rfl (pc' := 142) rfl ?_
      refine mm_getf fG_X8_50 dX8_findWord_142 rfl rfl (pc' := 145) rfl ?_
      refine mm_iload 2 dX8_findWord_145 rfl (pc' := 147) rfl ?_
      obtain ⟨x147, c147, e147, h⟩ := mm_rd_of h
      refine mm_iald dX8_findWord_147 rfl c147 e147 (pc' := 148) rfl ?_
      clear c147 e147
      obtain ⟨c148, h⟩ := mm_ck_of h
      refine mm_iast dX8_findWord_148 rfl c148 rfl (ws' := (W_X8 q_textSize q_cursor q_start q_token q_number q_word q_fault q_line q_foundPains q_foundLine q_deadMany q_deadSize q_deadLeast q_deadMost q_st q_before q_kept q_isKept q_refused q_text q_ones q_said q_readTable q_least q_made q_enough q_isWanted q_column (upd q_foundColumn v4.toNatClampNeg x147) q_walls q_wallMany q_chosen)) rfl (pc' := 149) rfl ?_
      clear c148
      refine mm_iinc 2 dX8_findWord_149 rfl ki_1 (by decide) (l' := [(4, .int (v4 + (1 : Int32))), (0, .ref 0), (1, .int v1)]) rfl (pc' := 152) rfl ?_
      refine mm_goto (tgt := 129) dX8_findWord_152 (by decide) ?_
      exact mm_sub [1, 2, 0] rfl (hr129 _ _ h)
def X8_findWord_J113 (fu : Nat) (rec16 : Int32 → Int32 → Int32 → (Nat → Int32) → (Nat → Int32) → Option (Int32 × Int32 × Int32 × (Nat → Int32) × (Nat → Int32) × (Nat → Int32) × (Nat → Int32) × (Nat → Int32))) (q_line : Int32) (q_foundPains : Int32) (q_foundLine : Int32) (q_st : Nat → Int32) (q_ones : Nat → Int32) (q_readTable : Nat → Int32) (q_least : Nat → Int32) (q_made : Nat → Int32) (q_column : Nat → Int32) (q_foundColumn : Nat → Int32) (v1 : Int32) (v3 : Int32)  : Option (Int32 × Int32 × Int32 × (Nat → Int32) × (Nat → Int32) × (Nat → Int32) × (Nat → Int32) × (Nat → Int32)) := X8_findWord_L129 fu rec16 q_line v3 q_line q_st q_ones q_readTable q_least q_made q_column v1 fu q_foundColumn (0 : Int32)
set_option maxHeartbeats 4000000 in
set_option maxRecDepth 100000 in
theorem s_X8_findWord_J113 {fu : Nat} {q_textSize : Int32} {q_cursor : Int32} {q_start : Int32} {q_token : Int32} {q_number : Int32} {q_word : Int64} {q_fault : Int32} {q_line : Int32} {q_foundPains : Int32} {q_foundLine : Int32} {q_deadMany : Int32} {q_deadSize : Int32} {q_deadLeast : Int32} {q_deadMost : Int32} {q_st : Nat → Int32} {q_before : Nat → Int32} {q_kept : Nat → Int32} {q_isKept : Nat → Int32} {q_refused : Nat → Int32} {q_text : Nat → Int32} {q_ones : Nat → Int32} {q_said : Nat → Int32} {q_readTable : Nat → Int32} {q_least : Nat → Int32} {q_made : Nat → Int32} {q_enough : Nat → Int32} {q_isWanted : Nat → Int32} {q_column : Nat → Int32} {q_foundColumn : Nat → Int32} {q_walls : Nat → Int64} {q_wallMany : Nat → Int32} {q_chosen : Nat → Int32} {r : Int32 × Int32 × Int32 × (Nat → Int32) × (Nat → Int32) × (Nat → Int32) × (Nat → Int32) × (Nat → Int32)} {rec16 : Int32 → Int32 → Int32 → (Nat → Int32) → (Nat → Int32) → Option (Int32 × Int32 × Int32 × (Nat → Int32) × (Nat → Int32) × (Nat → Int32) × (Nat → Int32) × (Nat → Int32))} {v1 : Int32} {v3 : Int32} (hr16 : ∀ (z_q_line : Int32) (z_q_foundPains : Int32) (z_q_foundLine : Int32) (z_q_column : Nat → Int32) (z_q_foundColumn : Nat → Int32), rec16 z_q_line z_q_foundPains z_q_foundLine z_q_column z_q_foundColumn = some r → mm_Wp mX8_findWord (mm_R (P_X8_findWord q_textSize q_cursor q_start q_token q_number q_word q_fault q_deadMany q_deadSize q_deadLeast q_deadMost q_st q_before q_kept q_isKept q_refused q_text q_ones q_said q_enough q_isWanted q_walls q_wallMany q_chosen r)) 0 0 16 [(0, .ref 0), (1, .int v1)] [] (W_X8 q_textSize q_cursor q_start q_token q_number q_word q_fault z_q_line z_q_foundPains z_q_foundLine q_deadMany q_deadSize q_deadLeast q_deadMost q_st q_before q_kept q_isKept q_refused q_text q_ones q_said q_readTable q_least q_made q_enough q_isWanted z_q_column z_q_foundColumn q_walls q_wallMany q_chosen)) (h : X8_findWord_J113 fu rec16 q_line q_foundPains q_foundLine q_st q_ones q_readTable q_least q_made q_column q_foundColumn v1 v3 = some r) : mm_Wp mX8_findWord (mm_R (P_X8_findWord q_textSize q_cursor q_start q_token q_number q_word q_fault q_deadMany q_deadSize q_deadLeast q_deadMost q_st q_before q_kept q_isKept q_refused q_text q_ones q_said q_enough q_isWanted q_walls q_wallMany q_chosen r)) 0 0 113 [(0, .ref 0), (1, .int v1), (3, .int v3)] [] (W_X8 q_textSize q_cursor q_start q_token q_number q_word q_fault q_line q_foundPains q_foundLine q_deadMany q_deadSize q_deadLeast q_deadMost q_st q_before q_kept q_isKept q_refused q_text q_ones q_said q_readTable q_least q_made q_enough q_isWanted q_column q_foundColumn q_walls q_wallMany q_chosen) := by
  rw [X8_findWord_J113] at h
  refine mm_aload_n 0 dX8_findWord_113 rfl rfl (pc' := 114) rfl ?_
  refine mm_iload_n 2 dX8_findWord_114 rfl rfl (pc' := 115) rfl ?_
  refine mm_putf fP_X8_222 dX8_findWord_115 rfl (Nat.le_of_ble_eq_true rfl) (fun _ => rfl) (fun _ => rfl) (ws' := (W_X8 q_textSize q_cursor q_start q_token q_number q_word q_fault q_line v3 q_foundLine q_deadMany q_deadSize q_deadLeast q_deadMost q_st q_before q_kept q_isKept q_refused q_text q_ones q_said q_readTable q_least q_made q_enough q_isWanted q_column q_foundColumn q_walls q_wallMany q_chosen)) rfl (pc' := 118) rfl ?_
  refine mm_aload_n 0 dX8_findWord_118 rfl rfl (pc' := 119) rfl ?_
  refine mm_aload_n 0 dX8_findWord_119 rfl rfl (pc' := 120) rfl ?_
  refine mm_getf fG_X8_212 dX8_findWord_120 rfl rfl (pc' := 123) rfl ?_
  refine mm_putf fP_X8_228 dX8_findWord_123 rfl (Nat.le_of_ble_eq_true rfl) (fun _ => rfl) (fun _ => rfl) (ws' := (W_X8 q_textSize q_cursor q_start q_token q_number q_word q_fault q_line v3 q_line q_deadMany q_deadSize q_deadLeast q_deadMost q_st q_before q_kept q_isKept q_refused q_text q_ones q_said q_readTable q_least q_made q_enough q_isWanted q_column q_foundColumn q_walls q_wallMany q_chosen)) rfl (pc' := 126) rfl ?_
  refine mm_iconst dX8_findWord_126 ki_0 (pc' := 127) rfl ?_
  refine mm_istore dX8_findWord_127 (by decide) (l' := [(4, .int (0 : Int32)), (0, .ref 0), (1, .int v1), (3, .int v3)]) rfl (pc' := 129) rfl ?_
  exact mm_sub [1, 2, 0] rfl (s_X8_findWord_L129 (hr16 := hr16) _ _ _ h)
def X8_findWord_J85 (fu : Nat) (rec16 : Int32 → Int32 → Int32 → (Nat → Int32) → (Nat → Int32) → Option (Int32 × Int32 × Int32 × (Nat → Int32) × (Nat → Int32) × (Nat → Int32) × (Nat → Int32) × (Nat → Int32))) (rec29 : Int32 → Int32 → Option (Int32 × Int32 × Int32 × (Nat → Int32) × (Nat → Int32) × (Nat → Int32) × (Nat → Int32) × (Nat → Int32))) (q_line : Int32) (q_foundPains : Int32) (q_foundLine : Int32) (q_st : Nat → Int32) (q_ones : Nat → Int32) (q_readTable : Nat → Int32) (q_least : Nat → Int32) (q_made : Nat → Int32) (q_column : Nat → Int32) (q_foundColumn : Nat → Int32) (v1 : Int32) (v4 : Int32) (s0 : Int32) : Option (Int32 × Int32 × Int32 × (Nat → Int32) × (Nat → Int32) × (Nat → Int32) × (Nat → Int32) × (Nat → Int32)) := rec29 s0 (v4 + (1 : Int32))
set_option maxHeartbeats 4000000 in
set_option maxRecDepth 100000 in
theorem s_X8_findWord_J85 {fu : Nat} {q_textSize : Int32} {q_cursor : Int32} {q_start : Int32} {q_token : Int32} {q_number : Int32} {q_word : Int64} {q_fault : Int32} {q_line : Int32} {q_foundPains : Int32} {q_foundLine : Int32} {q_deadMany : Int32} {q_deadSize : Int32} {q_deadLeast : Int32} {q_deadMost : Int32} {q_st : Nat → Int32} {q_before : Nat → Int32} {q_kept : Nat → Int32} {q_isKept : Nat → Int32} {q_refused : Nat → Int32} {q_text : Nat → Int32} {q_ones : Nat → Int32} {q_said : Nat → Int32} {q_readTable : Nat → Int32} {q_least : Nat → Int32} {q_made : Nat → Int32} {q_enough : Nat → Int32} {q_isWanted : Nat → Int32} {q_column : Nat → Int32} {q_foundColumn : Nat → Int32} {q_walls : Nat → Int64} {q_wallMany : Nat → Int32} {q_chosen : Nat → Int32} {r : Int32 × Int32 × Int32 × (Nat → Int32) × (Nat → Int32) × (Nat → Int32) × (Nat → Int32) × (Nat → Int32)} {rec16 : Int32 → Int32 → Int32 → (Nat → Int32) → (Nat → Int32) → Option (Int32 × Int32 × Int32 × (Nat → Int32) × (Nat → Int32) × (Nat → Int32) × (Nat → Int32) × (Nat → Int32))} {rec29 : Int32 → Int32 → Option (Int32 × Int32 × Int32 × (Nat → Int32) × (Nat → Int32) × (Nat → Int32) × (Nat → Int32) × (Nat → Int32))} {v1 : Int32} {v4 : Int32} {s0 : Int32} (hr16 : ∀ (z_q_line : Int32) (z_q_foundPains : Int32) (z_q_foundLine : Int32) (z_q_column : Nat → Int32) (z_q_foundColumn : Nat → Int32), rec16 z_q_line z_q_foundPains z_q_foundLine z_q_column z_q_foundColumn = some r → mm_Wp mX8_findWord (mm_R (P_X8_findWord q_textSize q_cursor q_start q_token q_number q_word q_fault q_deadMany q_deadSize q_deadLeast q_deadMost q_st q_before q_kept q_isKept q_refused q_text q_ones q_said q_enough q_isWanted q_walls q_wallMany q_chosen r)) 0 0 16 [(0, .ref 0), (1, .int v1)] [] (W_X8 q_textSize q_cursor q_start q_token q_number q_word q_fault z_q_line z_q_foundPains z_q_foundLine q_deadMany q_deadSize q_deadLeast q_deadMost q_st q_before q_kept q_isKept q_refused q_text q_ones q_said q_readTable q_least q_made q_enough q_isWanted z_q_column z_q_foundColumn q_walls q_wallMany q_chosen)) (hr29 : ∀ (y3 : Int32) (y4 : Int32), rec29 y3 y4 = some r → mm_Wp mX8_findWord (mm_R (P_X8_findWord q_textSize q_cursor q_start q_token q_number q_word q_fault q_deadMany q_deadSize q_deadLeast q_deadMost q_st q_before q_kept q_isKept q_refused q_text q_ones q_said q_enough q_isWanted q_walls q_wallMany q_chosen r)) 0 0 29 [(0, .ref 0), (1, .int v1), (3, .int y3), (4, .int y4)] [] (W_X8 q_textSize q_cursor q_start q_token q_number q_word q_fault q_line q_foundPains q_foundLine q_deadMany q_deadSize q_deadLeast q_deadMost q_st q_before q_kept q_isKept q_refused q_text q_ones q_said q_readTable q_least q_made q_enough q_isWanted q_column q_foundColumn q_walls q_wallMany q_chosen)) (h : X8_findWord_J85 fu rec16 rec29 q_line q_foundPains q_foundLine q_st q_ones q_readTable q_least q_made q_column q_foundColumn v1 v4 s0 = some r) : mm_Wp mX8_findWord (mm_R (P_X8_findWord q_textSize q_cursor q_start q_token q_number q_word q_fault q_deadMany q_deadSize q_deadLeast q_deadMost q_st q_before q_kept q_isKept q_refused q_text q_ones q_said q_enough q_isWanted q_walls q_wallMany q_chosen r)) 0 0 85 [(0, .ref 0), (1, .int v1), (4, .int v4)] [.int s0] (W_X8 q_textSize q_cursor q_start q_token q_number q_word q_fault q_line q_foundPains q_foundLine q_deadMany q_deadSize q_deadLeast q_deadMost q_st q_before q_kept q_isKept q_refused q_text q_ones q_said q_readTable q_least q_made q_enough q_isWanted q_column q_foundColumn q_walls q_wallMany q_chosen) := by
  rw [X8_findWord_J85] at h
  refine mm_istore_n dX8_findWord_85 rfl (by decide) (l' := [(3, .int s0), (0, .ref 0), (1, .int v1), (4, .int v4)]) rfl (pc' := 86) rfl ?_
  refine mm_iinc 3 dX8_findWord_86 rfl ki_1 (by decide) (l' := [(4, .int (v4 + (1 : Int32))), (3, .int s0), (0, .ref 0), (1, .int v1)]) rfl (pc' := 89) rfl ?_
  refine mm_goto (tgt := 29) dX8_findWord_89 (by decide) ?_
  exact mm_sub [2, 3, 1, 0] rfl (hr29 _ _ h)
def X8_findWord_J77 (fu : Nat) (rec16 : Int32 → Int32 → Int32 → (Nat → Int32) → (Nat → Int32) → Option (Int32 × Int32 × Int32 × (Nat → Int32) × (Nat → Int32) × (Nat → Int32) × (Nat → Int32) × (Nat → Int32))) (rec29 : Int32 → Int32 → Option (Int32 × Int32 × Int32 × (Nat → Int32) × (Nat → Int32) × (Nat → Int32) × (Nat → Int32) × (Nat → Int32))) (q_line : Int32) (q_foundPains : Int32) (q_foundLine : Int32) (q_st : Nat → Int32) (q_ones : Nat → Int32) (q_readTable : Nat → Int32) (q_least : Nat → Int32) (q_made : Nat → Int32) (q_column : Nat → Int32) (q_foundColumn : Nat → Int32) (v1 : Int32) (v4 : Int32)  : Option (Int32 × Int32 × Int32 × (Nat → Int32) × (Nat → Int32) × (Nat → Int32) × (Nat → Int32) × (Nat → Int32)) := X8_findWord_J85 fu rec16 rec29 q_line q_foundPains q_foundLine q_st q_ones q_readTable q_least q_made q_column q_foundColumn v1 v4 (-1 : Int32)
set_option maxHeartbeats 4000000 in
set_option maxRecDepth 100000 in
theorem s_X8_findWord_J77 {fu : Nat} {q_textSize : Int32} {q_cursor : Int32} {q_start : Int32} {q_token : Int32} {q_number : Int32} {q_word : Int64} {q_fault : Int32} {q_line : Int32} {q_foundPains : Int32} {q_foundLine : Int32} {q_deadMany : Int32} {q_deadSize : Int32} {q_deadLeast : Int32} {q_deadMost : Int32} {q_st : Nat → Int32} {q_before : Nat → Int32} {q_kept : Nat → Int32} {q_isKept : Nat → Int32} {q_refused : Nat → Int32} {q_text : Nat → Int32} {q_ones : Nat → Int32} {q_said : Nat → Int32} {q_readTable : Nat → Int32} {q_least : Nat → Int32} {q_made : Nat → Int32} {q_enough : Nat → Int32} {q_isWanted : Nat → Int32} {q_column : Nat → Int32} {q_foundColumn : Nat → Int32} {q_walls : Nat → Int64} {q_wallMany : Nat → Int32} {q_chosen : Nat → Int32} {r : Int32 × Int32 × Int32 × (Nat → Int32) × (Nat → Int32) × (Nat → Int32) × (Nat → Int32) × (Nat → Int32)} {rec16 : Int32 → Int32 → Int32 → (Nat → Int32) → (Nat → Int32) → Option (Int32 × Int32 × Int32 × (Nat → Int32) × (Nat → Int32) × (Nat → Int32) × (Nat → Int32) × (Nat → Int32))} {rec29 : Int32 → Int32 → Option (Int32 × Int32 × Int32 × (Nat → Int32) × (Nat → Int32) × (Nat → Int32) × (Nat → Int32) × (Nat → Int32))} {v1 : Int32} {v4 : Int32} (hr16 : ∀ (z_q_line : Int32) (z_q_foundPains : Int32) (z_q_foundLine : Int32) (z_q_column : Nat → Int32) (z_q_foundColumn : Nat → Int32), rec16 z_q_line z_q_foundPains z_q_foundLine z_q_column z_q_foundColumn = some r → mm_Wp mX8_findWord (mm_R (P_X8_findWord q_textSize q_cursor q_start q_token q_number q_word q_fault q_deadMany q_deadSize q_deadLeast q_deadMost q_st q_before q_kept q_isKept q_refused q_text q_ones q_said q_enough q_isWanted q_walls q_wallMany q_chosen r)) 0 0 16 [(0, .ref 0), (1, .int v1)] [] (W_X8 q_textSize q_cursor q_start q_token q_number q_word q_fault z_q_line z_q_foundPains z_q_foundLine q_deadMany q_deadSize q_deadLeast q_deadMost q_st q_before q_kept q_isKept q_refused q_text q_ones q_said q_readTable q_least q_made q_enough q_isWanted z_q_column z_q_foundColumn q_walls q_wallMany q_chosen)) (hr29 : ∀ (y3 : Int32) (y4 : Int32), rec29 y3 y4 = some r → mm_Wp mX8_findWord (mm_R (P_X8_findWord q_textSize q_cursor q_start q_token q_number q_word q_fault q_deadMany q_deadSize q_deadLeast q_deadMost q_st q_before q_kept q_isKept q_refused q_text q_ones q_said q_enough q_isWanted q_walls q_wallMany q_chosen r)) 0 0 29 [(0, .ref 0), (1, .int v1), (3, .int y3), (4, .int y4)] [] (W_X8 q_textSize q_cursor q_start q_token q_number q_word q_fault q_line q_foundPains q_foundLine q_deadMany q_deadSize q_deadLeast q_deadMost q_st q_before q_kept q_isKept q_refused q_text q_ones q_said q_readTable q_least q_made q_enough q_isWanted q_column q_foundColumn q_walls q_wallMany q_chosen)) (h : X8_findWord_J77 fu rec16 rec29 q_line q_foundPains q_foundLine q_st q_ones q_readTable q_least q_made q_column q_foundColumn v1 v4 = some r) : mm_Wp mX8_findWord (mm_R (P_X8_findWord q_textSize q_cursor q_start q_token q_number q_word q_fault q_deadMany q_deadSize q_deadLeast q_deadMost q_st q_before q_kept q_isKept q_refused q_text q_ones q_said q_enough q_isWanted q_walls q_wallMany q_chosen r)) 0 0 77 [(0, .ref 0), (1, .int v1), (4, .int v4)] [] (W_X8 q_textSize q_cursor q_start q_token q_number q_word q_fault q_line q_foundPains q_foundLine q_deadMany q_deadSize q_deadLeast q_deadMost q_st q_before q_kept q_isKept q_refused q_text q_ones q_said q_readTable q_least q_made q_enough q_isWanted q_column q_foundColumn q_walls q_wallMany q_chosen) := by
  rw [X8_findWord_J77] at h
  refine mm_iconst dX8_findWord_77 ki_m1 (pc' := 78) rfl ?_
  refine mm_goto (tgt := 85) dX8_findWord_78 (by decide) ?_
  exact s_X8_findWord_J85 (hr16 := hr16) (hr29 := hr29) h
def X8_findWord_L29 (fu : Nat) (rec16 : Int32 → Int32 → Int32 → (Nat → Int32) → (Nat → Int32) → Option (Int32 × Int32 × Int32 × (Nat → Int32) × (Nat → Int32) × (Nat → Int32) × (Nat → Int32) × (Nat → Int32))) (q_line : Int32) (q_foundPains : Int32) (q_foundLine : Int32) (q_st : Nat → Int32) (q_ones : Nat → Int32) (q_readTable : Nat → Int32) (q_least : Nat → Int32) (q_made : Nat → Int32) (q_column : Nat → Int32) (q_foundColumn : Nat → Int32) (v1 : Int32) : Nat → Int32 → Int32 → Option (Int32 × Int32 × Int32 × (Nat → Int32) × (Nat → Int32) × (Nat → Int32) × (Nat → Int32) × (Nat → Int32))
  | 0, _, _ => none
  | n + 1, v3, v4 => (f_X8_longOf fu v1).bind fun t32 => if t32 ≤ v4 then (if v3 = (-1 : Int32) then (X8_findWord_J155 fu rec16 q_line q_foundPains q_foundLine q_st q_ones q_readTable q_least q_made q_column q_foundColumn v1) else (if q_foundPains = (-1 : Int32) then (X8_findWord_J113 fu rec16 q_line q_foundPains q_foundLine q_st q_ones q_readTable q_least q_made q_column q_foundColumn v1 v3) else (if q_foundPains ≤ v3 then (X8_findWord_J155 fu rec16 q_line q_foundPains q_foundLine q_st q_ones q_readTable q_least q_made q_column q_foundColumn v1) else (X8_findWord_J113 fu rec16 q_line q_foundPains q_foundLine q_st q_ones q_readTable q_least q_made q_column q_foundColumn v1 v3)))) else (mm_rd q_column 3 v4 fun x61 => mm_rd q_least 72 ((((24 : Int32) * v4) + ((12 : Int32) * q_line)) + x61) fun x63 => if x63 = (-1 : Int32) then (X8_findWord_J77 fu rec16 (X8_findWord_L29 fu rec16 q_line q_foundPains q_foundLine q_st q_ones q_readTable q_least q_made q_column q_foundColumn v1 n) q_line q_foundPains q_foundLine q_st q_ones q_readTable q_least q_made q_column q_foundColumn v1 v4) else (if v3 = (-1 : Int32) then (X8_findWord_J77 fu rec16 (X8_findWord_L29 fu rec16 q_line q_foundPains q_foundLine q_st q_ones q_readTable q_least q_made q_column q_foundColumn v1 n) q_line q_foundPains q_foundLine q_st q_ones q_readTable q_least q_made q_column q_foundColumn v1 v4) else (X8_findWord_J85 fu rec16 (X8_findWord_L29 fu rec16 q_line q_foundPains q_foundLine q_st q_ones q_readTable q_least q_made q_column q_foundColumn v1 n) q_line q_foundPains q_foundLine q_st q_ones q_readTable q_least q_made q_column q_foundColumn v1 v4 (v3 + x63))))
set_option maxHeartbeats 4000000 in
set_option maxRecDepth 100000 in
theorem s_X8_findWord_L29 {fu : Nat} {q_textSize : Int32} {q_cursor : Int32} {q_start : Int32} {q_token : Int32} {q_number : Int32} {q_word : Int64} {q_fault : Int32} {q_line : Int32} {q_foundPains : Int32} {q_foundLine : Int32} {q_deadMany : Int32} {q_deadSize : Int32} {q_deadLeast : Int32} {q_deadMost : Int32} {q_st : Nat → Int32} {q_before : Nat → Int32} {q_kept : Nat → Int32} {q_isKept : Nat → Int32} {q_refused : Nat → Int32} {q_text : Nat → Int32} {q_ones : Nat → Int32} {q_said : Nat → Int32} {q_readTable : Nat → Int32} {q_least : Nat → Int32} {q_made : Nat → Int32} {q_enough : Nat → Int32} {q_isWanted : Nat → Int32} {q_column : Nat → Int32} {q_foundColumn : Nat → Int32} {q_walls : Nat → Int64} {q_wallMany : Nat → Int32} {q_chosen : Nat → Int32} {r : Int32 × Int32 × Int32 × (Nat → Int32) × (Nat → Int32) × (Nat → Int32) × (Nat → Int32) × (Nat → Int32)} {rec16 : Int32 → Int32 → Int32 → (Nat → Int32) → (Nat → Int32) → Option (Int32 × Int32 × Int32 × (Nat → Int32) × (Nat → Int32) × (Nat → Int32) × (Nat → Int32) × (Nat → Int32))} {v1 : Int32} (hr16 : ∀ (z_q_line : Int32) (z_q_foundPains : Int32) (z_q_foundLine : Int32) (z_q_column : Nat → Int32) (z_q_foundColumn : Nat → Int32), rec16 z_q_line z_q_foundPains z_q_foundLine z_q_column z_q_foundColumn = some r → mm_Wp mX8_findWord (mm_R (P_X8_findWord q_textSize q_cursor q_start q_token q_number q_word q_fault q_deadMany q_deadSize q_deadLeast q_deadMost q_st q_before q_kept q_isKept q_refused q_text q_ones q_said q_enough q_isWanted q_walls q_wallMany q_chosen r)) 0 0 16 [(0, .ref 0), (1, .int v1)] [] (W_X8 q_textSize q_cursor q_start q_token q_number q_word q_fault z_q_line z_q_foundPains z_q_foundLine q_deadMany q_deadSize q_deadLeast q_deadMost q_st q_before q_kept q_isKept q_refused q_text q_ones q_said q_readTable q_least q_made q_enough q_isWanted z_q_column z_q_foundColumn q_walls q_wallMany q_chosen)) : ∀ (n : Nat) (v3 : Int32) (v4 : Int32), X8_findWord_L29 fu rec16 q_line q_foundPains q_foundLine q_st q_ones q_readTable q_least q_made q_column q_foundColumn v1 n v3 v4 = some r → mm_Wp mX8_findWord (mm_R (P_X8_findWord q_textSize q_cursor q_start q_token q_number q_word q_fault q_deadMany q_deadSize q_deadLeast q_deadMost q_st q_before q_kept q_isKept q_refused q_text q_ones q_said q_enough q_isWanted q_walls q_wallMany q_chosen r)) 0 0 29 [(0, .ref 0), (1, .int v1), (3, .int v3), (4, .int v4)] [] (W_X8 q_textSize q_cursor q_start q_token q_number q_word q_fault q_line q_foundPains q_foundLine q_deadMany q_deadSize q_deadLeast q_deadMost q_st q_before q_kept q_isKept q_refused q_text q_ones q_said q_readTable q_least q_made q_enough q_isWanted q_column q_foundColumn q_walls q_wallMany q_chosen) := by
  intro n
  induction n with
  | zero =>
    intro v3 v4 h
    rw [X8_findWord_L29] at h
    cases h
  | succ n hr29 =>
    intro v3 v4 h
    rw [X8_findWord_L29] at h
    refine mm_iload 3 dX8_findWord_29 rfl (pc' := 31) rfl ?_
    refine mm_iload_n 1 dX8_findWord_31 rfl rfl (pc' := 32) rfl ?_
    obtain ⟨t32, h32, h⟩ := mm_bd h
    refine mm_callS (As := [.int v1]) (rest := [.int v4]) (av := [.int v1]) (wc := []) (is := []) cS_X8_195 (ok_X8_longOf h32) ⟨rfl, rfl, Nat.le_of_ble_eq_true rfl, Nat.le_of_ble_eq_true rfl⟩ dX8_findWord_32 rfl rfl rfl ⟨rfl, by decide, by decide⟩ (by rintro _ _ ⟨-, rfl⟩; rfl) (Nat.le_of_ble_eq_true rfl) ⟨Nat.le_of_ble_eq_true rfl, Nat.le_of_ble_eq_true rfl⟩ (pc' := 35) rfl ?_
    rintro rv w ⟨rfl, rfl⟩
    show mm_Wp _ _ _ _ 35 [(0, .ref 0), (1, .int v1), (3, .int v3), (4, .int v4)] [.int t32, .int v4] (W_X8 q_textSize q_cursor q_start q_token q_number q_word q_fault q_line q_foundPains q_foundLine q_deadMany q_deadSize q_deadLeast q_deadMost q_st q_before q_kept q_isKept q_refused q_text q_ones q_said q_readTable q_least q_made q_enough q_isWanted q_column q_foundColumn q_walls q_wallMany q_chosen)
    clear h32
    refine mm_icmp_ge (tgt := 92) dX8_findWord_35 (by decide) (pc' := 38) rfl (fun c => ?_) (fun c => ?_)
    · replace h := mm_it h c
      clear c
      refine mm_iload_n 2 dX8_findWord_92 rfl rfl (pc' := 93) rfl ?_
      refine mm_iconst dX8_findWord_93 ki_m1 (pc' := 94) rfl ?_
      refine mm_icmp_eq (tgt := 155) dX8_findWord_94 (by decide) (pc' := 97) rfl (fun c => ?_) (fun c => ?_)
      · replace h := mm_it h c
        clear c
        exact mm_sub [0, 1] rfl (s_X8_findWord_J155 (hr16 := hr16) h)
      · replace h := mm_if h c
        clear c
        refine mm_aload_n 0 dX8_findWord_97 rfl rfl (pc' := 98) rfl ?_
        refine mm_getf fG_X8_222 dX8_findWord_98 rfl rfl (pc' := 101) rfl ?_
        refine mm_iconst dX8_findWord_101 ki_m1 (pc' := 102) rfl ?_
        refine mm_icmp_eq (tgt := 113) dX8_findWord_102 (by decide) (pc' := 105) rfl (fun c => ?_) (fun c => ?_)
        · replace h := mm_it h c
          clear c
          exact mm_sub [0, 1, 2] rfl (s_X8_findWord_J113 (hr16 := hr16) h)
        · replace h := mm_if h c
          clear c
          refine mm_iload_n 2 dX8_findWord_105 rfl rfl (pc' := 106) rfl ?_
          refine mm_aload_n 0 dX8_findWord_106 rfl rfl (pc' := 107) rfl ?_
          refine mm_getf fG_X8_222 dX8_findWord_107 rfl rfl (pc' := 110) rfl ?_
          refine mm_icmp_ge (tgt := 155) dX8_findWord_110 (by decide) (pc' := 113) rfl (fun c => ?_) (fun c => ?_)
          · replace h := mm_it h c
            clear c
            exact mm_sub [0, 1] rfl (s_X8_findWord_J155 (hr16 := hr16) h)
          · replace h := mm_if h c
            clear c
            exact mm_sub [0, 1, 2] rfl (s_X8_findWord_J113 (hr16 := hr16) h)
    · replace h := mm_if h c
      clear c
      refine mm_aload_n 0 dX8_findWord_38 rfl rfl (pc' := 39) rfl ?_
      refine mm_getf fG_X8_38 dX8_findWord_39 rfl rfl (pc' := 42) rfl ?_
      refine mm_bipush dX8_findWord_42 kb_24 (pc' := 44) rfl ?_
      refine mm_iload 3 dX8_findWord_44 rfl (pc' := 46) rfl ?_
      refine mm_imul dX8_findWord_46 (pc' := 47) rfl ?_
      refine mm_bipush dX8_findWord_47 kb_12 (pc' := 49) rfl ?_
      refine mm_aload_n 0 dX8_findWord_49 rfl rfl (pc' := 50) rfl ?_
      refine mm_getf fG_X8_212 dX8_findWord_50 rfl rfl (pc' := 53) rfl ?_
      refine mm_imul dX8_findWord_53 (pc' := 54) rfl ?_
      refine mm_iadd dX8_findWord_54 (pc' := 55) rfl ?_
      refine mm_aload_n 0 dX8_findWord_55 rfl rfl (pc' := 56) rfl ?_
      refine mm_getf fG_X8_50 dX8_findWord_56 rfl rfl (pc' := 59) rfl ?_
      refine mm_iload 3 dX8_findWord_59 rfl (pc' := 61) rfl ?_
      obtain ⟨x61, c61, e61, h⟩ := mm_rd_of h
      refine mm_iald dX8_findWord_61 rfl c61 e61 (pc' := 62) rfl ?_
      clear c61 e61
      refine mm_iadd dX8_findWord_62 (pc' := 63) rfl ?_
      obtain ⟨x63, c63, e63, h⟩ := mm_rd_of h
      refine mm_iald dX8_findWord_63 rfl c63 e63 (pc' := 64) rfl ?_
      clear c63 e63
      refine mm_istore dX8_findWord_64 (by decide) (l' := [(5, .int x63), (0, .ref 0), (1, .int v1), (3, .int v3), (4, .int v4)]) rfl (pc' := 66) rfl ?_
      refine mm_iload 0 dX8_findWord_66 rfl (pc' := 68) rfl ?_
      refine mm_iconst dX8_findWord_68 ki_m1 (pc' := 69) rfl ?_
      refine mm_icmp_eq (tgt := 77) dX8_findWord_69 (by decide) (pc' := 72) rfl (fun c => ?_) (fun c => ?_)
      · replace h := mm_it h c
        clear c
        exact mm_sub [1, 2, 4] rfl (s_X8_findWord_J77 (hr16 := hr16) (hr29 := hr29) h)
      · replace h := mm_if h c
        clear c
        refine mm_iload_n 3 dX8_findWord_72 rfl rfl (pc' := 73) rfl ?_
        refine mm_iconst dX8_findWord_73 ki_m1 (pc' := 74) rfl ?_
        refine mm_icmp_ne (tgt := 81) dX8_findWord_74 (by decide) (pc' := 77) rfl (fun c => ?_) (fun c => ?_)
        · replace h := mm_if h c
          clear c
          refine mm_iload_n 3 dX8_findWord_81 rfl rfl (pc' := 82) rfl ?_
          refine mm_iload 0 dX8_findWord_82 rfl (pc' := 84) rfl ?_
          refine mm_iadd dX8_findWord_84 (pc' := 85) rfl ?_
          exact mm_sub [1, 2, 4] rfl (s_X8_findWord_J85 (hr16 := hr16) (hr29 := hr29) h)
        · replace h := mm_it h c
          clear c
          exact mm_sub [1, 2, 4] rfl (s_X8_findWord_J77 (hr16 := hr16) (hr29 := hr29) h)
def X8_findWord_L16 (fu : Nat)  (q_st : Nat → Int32) (q_ones : Nat → Int32) (q_readTable : Nat → Int32) (q_least : Nat → Int32) (q_made : Nat → Int32) (v1 : Int32) : Nat → Int32 → Int32 → Int32 → (Nat → Int32) → (Nat → Int32) → Option (Int32 × Int32 × Int32 × (Nat → Int32) × (Nat → Int32) × (Nat → Int32) × (Nat → Int32) × (Nat → Int32))
  | 0, _, _, _, _, _ => none
  | n + 1, q_line, q_foundPains, q_foundLine, q_column, q_foundColumn => (f_X8_isRow fu q_line q_st q_column v1).bind fun t18 => if t18 = 0 then (some (q_line, q_foundPains, q_foundLine, q_readTable, q_least, q_made, q_column, q_foundColumn)) else (X8_findWord_L29 fu (X8_findWord_L16 fu q_st q_ones q_readTable q_least q_made v1 n) q_line q_foundPains q_foundLine q_st q_ones q_readTable q_least q_made q_column q_foundColumn v1 fu (0 : Int32) (0 : Int32))
set_option maxHeartbeats 4000000 in
set_option maxRecDepth 100000 in
theorem s_X8_findWord_L16 {fu : Nat} {q_textSize : Int32} {q_cursor : Int32} {q_start : Int32} {q_token : Int32} {q_number : Int32} {q_word : Int64} {q_fault : Int32} {q_deadMany : Int32} {q_deadSize : Int32} {q_deadLeast : Int32} {q_deadMost : Int32} {q_st : Nat → Int32} {q_before : Nat → Int32} {q_kept : Nat → Int32} {q_isKept : Nat → Int32} {q_refused : Nat → Int32} {q_text : Nat → Int32} {q_ones : Nat → Int32} {q_said : Nat → Int32} {q_readTable : Nat → Int32} {q_least : Nat → Int32} {q_made : Nat → Int32} {q_enough : Nat → Int32} {q_isWanted : Nat → Int32} {q_walls : Nat → Int64} {q_wallMany : Nat → Int32} {q_chosen : Nat → Int32} {r : Int32 × Int32 × Int32 × (Nat → Int32) × (Nat → Int32) × (Nat → Int32) × (Nat → Int32) × (Nat → Int32)} {v1 : Int32} : ∀ (n : Nat) (q_line : Int32) (q_foundPains : Int32) (q_foundLine : Int32) (q_column : Nat → Int32) (q_foundColumn : Nat → Int32), X8_findWord_L16 fu q_st q_ones q_readTable q_least q_made v1 n q_line q_foundPains q_foundLine q_column q_foundColumn = some r → mm_Wp mX8_findWord (mm_R (P_X8_findWord q_textSize q_cursor q_start q_token q_number q_word q_fault q_deadMany q_deadSize q_deadLeast q_deadMost q_st q_before q_kept q_isKept q_refused q_text q_ones q_said q_enough q_isWanted q_walls q_wallMany q_chosen r)) 0 0 16 [(0, .ref 0), (1, .int v1)] [] (W_X8 q_textSize q_cursor q_start q_token q_number q_word q_fault q_line q_foundPains q_foundLine q_deadMany q_deadSize q_deadLeast q_deadMost q_st q_before q_kept q_isKept q_refused q_text q_ones q_said q_readTable q_least q_made q_enough q_isWanted q_column q_foundColumn q_walls q_wallMany q_chosen) := by
  intro n
  induction n with
  | zero =>
    intro q_line q_foundPains q_foundLine q_column q_foundColumn h
    rw [X8_findWord_L16] at h
    cases h
  | succ n hr16 =>
    intro q_line q_foundPains q_foundLine q_column q_foundColumn h
    rw [X8_findWord_L16] at h
    refine mm_aload_n 0 dX8_findWord_16 rfl rfl (pc' := 17) rfl ?_
    refine mm_iload_n 1 dX8_findWord_17 rfl rfl (pc' := 18) rfl ?_
    obtain ⟨t18, h18, h⟩ := mm_bd h
    refine mm_call0 (As := [.int v1]) (rest := []) cV_X8_225 (ok_X8_isRow h18) ⟨rfl, rfl, Nat.le_of_ble_eq_true rfl, Nat.le_of_ble_eq_true rfl⟩ dX8_findWord_18 rfl rfl rfl rfl (by rintro _ _ ⟨-, rfl⟩; rfl) (Nat.le_of_ble_eq_true rfl) ⟨Nat.le_of_ble_eq_true rfl, Nat.le_of_ble_eq_true rfl⟩ (pc' := 21) rfl ?_
    rintro rv w ⟨rfl, rfl⟩
    show mm_Wp _ _ _ _ 21 [(0, .ref 0), (1, .int v1)] [.int t18] (W_X8 q_textSize q_cursor q_start q_token q_number q_word q_fault q_line q_foundPains q_foundLine q_deadMany q_deadSize q_deadLeast q_deadMost q_st q_before q_kept q_isKept q_refused q_text q_ones q_said q_readTable q_least q_made q_enough q_isWanted q_column q_foundColumn q_walls q_wallMany q_chosen)
    clear h18
    refine mm_if_eq (tgt := 163) dX8_findWord_21 (by decide) (pc' := 24) rfl (fun c => ?_) (fun c => ?_)
    · replace h := mm_it h c
      clear c
      have h9 := Option.some.inj h
      subst h9
      exact mm_vret rfl dX8_findWord_163 ⟨rfl, rfl⟩
    · replace h := mm_if h c
      clear c
      refine mm_iconst dX8_findWord_24 ki_0 (pc' := 25) rfl ?_
      refine mm_istore_n dX8_findWord_25 rfl (by decide) (l' := [(3, .int (0 : Int32)), (0, .ref 0), (1, .int v1)]) rfl (pc' := 26) rfl ?_
      refine mm_iconst dX8_findWord_26 ki_0 (pc' := 27) rfl ?_
      refine mm_istore dX8_findWord_27 (by decide) (l' := [(4, .int (0 : Int32)), (3, .int (0 : Int32)), (0, .ref 0), (1, .int v1)]) rfl (pc' := 29) rfl ?_
      exact mm_sub [2, 3, 1, 0] rfl (s_X8_findWord_L29 (hr16 := hr16) _ _ _ h)
def f_X8_findWord (fu : Nat) (q_line : Int32) (q_foundPains : Int32) (q_foundLine : Int32) (q_st : Nat → Int32) (q_ones : Nat → Int32) (q_readTable : Nat → Int32) (q_least : Nat → Int32) (q_made : Nat → Int32) (q_column : Nat → Int32) (q_foundColumn : Nat → Int32) (v1 : Int32) (v2 : Int32) : Option (Int32 × Int32 × Int32 × (Nat → Int32) × (Nat → Int32) × (Nat → Int32) × (Nat → Int32) × (Nat → Int32)) := (f_X8_makeBoxes fu q_st q_ones q_readTable q_least q_made v1 v2).bind fun t3 => (f_X8_firstRow fu q_line q_column v1).bind fun t13 => X8_findWord_L16 fu q_st q_ones t3.1 t3.2.1 t3.2.2 v1 fu t13.1 (-1 : Int32) q_foundLine t13.2 q_foundColumn
set_option maxHeartbeats 4000000 in
set_option maxRecDepth 100000 in
theorem ok_X8_findWord {fu : Nat} {q_textSize : Int32} {q_cursor : Int32} {q_start : Int32} {q_token : Int32} {q_number : Int32} {q_word : Int64} {q_fault : Int32} {q_line : Int32} {q_foundPains : Int32} {q_foundLine : Int32} {q_deadMany : Int32} {q_deadSize : Int32} {q_deadLeast : Int32} {q_deadMost : Int32} {q_st : Nat → Int32} {q_before : Nat → Int32} {q_kept : Nat → Int32} {q_isKept : Nat → Int32} {q_refused : Nat → Int32} {q_text : Nat → Int32} {q_ones : Nat → Int32} {q_said : Nat → Int32} {q_readTable : Nat → Int32} {q_least : Nat → Int32} {q_made : Nat → Int32} {q_enough : Nat → Int32} {q_isWanted : Nat → Int32} {q_column : Nat → Int32} {q_foundColumn : Nat → Int32} {q_walls : Nat → Int64} {q_wallMany : Nat → Int32} {q_chosen : Nat → Int32} {r : Int32 × Int32 × Int32 × (Nat → Int32) × (Nat → Int32) × (Nat → Int32) × (Nat → Int32) × (Nat → Int32)} {v1 : Int32} {v2 : Int32} (h : f_X8_findWord fu q_line q_foundPains q_foundLine q_st q_ones q_readTable q_least q_made q_column q_foundColumn v1 v2 = some r) : mm_Ok mX8_findWord [.ref 0, .int v1, .int v2] (W_X8 q_textSize q_cursor q_start q_token q_number q_word q_fault q_line q_foundPains q_foundLine q_deadMany q_deadSize q_deadLeast q_deadMost q_st q_before q_kept q_isKept q_refused q_text q_ones q_said q_readTable q_least q_made q_enough q_isWanted q_column q_foundColumn q_walls q_wallMany q_chosen) (P_X8_findWord q_textSize q_cursor q_start q_token q_number q_word q_fault q_deadMany q_deadSize q_deadLeast q_deadMost q_st q_before q_kept q_isKept q_refused q_text q_ones q_said q_enough q_isWanted q_walls q_wallMany q_chosen r) := by
  rw [f_X8_findWord] at h
  refine mm_Ok.of pn_X8 (l := [(0, .ref 0), (1, .int v1), (2, .int v2)]) rfl (Nat.le_of_ble_eq_true rfl) ?_
  refine mm_aload_n 0 dX8_findWord_0 rfl rfl (pc' := 1) rfl ?_
  refine mm_iload_n 1 dX8_findWord_1 rfl rfl (pc' := 2) rfl ?_
  refine mm_iload_n 2 dX8_findWord_2 rfl rfl (pc' := 3) rfl ?_
  obtain ⟨t3, h3, h⟩ := mm_bd h
  refine mm_call0 (As := [.int v1, .int v2]) (rest := []) cV_X8_219 (ok_X8_makeBoxes h3) ⟨rfl, rfl, Nat.le_of_ble_eq_true rfl, Nat.le_of_ble_eq_true rfl⟩ dX8_findWord_3 rfl rfl rfl rfl (by rintro _ _ ⟨-, rfl⟩; rfl) (Nat.le_of_ble_eq_true rfl) ⟨Nat.le_of_ble_eq_true rfl, Nat.le_of_ble_eq_true rfl⟩ (pc' := 6) rfl ?_
  rintro rv w ⟨rfl, rfl⟩
  show mm_Wp _ _ _ _ 6 [(0, .ref 0), (1, .int v1), (2, .int v2)] [] (W_X8 q_textSize q_cursor q_start q_token q_number q_word q_fault q_line q_foundPains q_foundLine q_deadMany q_deadSize q_deadLeast q_deadMost q_st q_before q_kept q_isKept q_refused q_text q_ones q_said t3.1 t3.2.1 t3.2.2 q_enough q_isWanted q_column q_foundColumn q_walls q_wallMany q_chosen)
  clear h3
  refine mm_aload_n 0 dX8_findWord_6 rfl rfl (pc' := 7) rfl ?_
  refine mm_iconst dX8_findWord_7 ki_m1 (pc' := 8) rfl ?_
  refine mm_putf fP_X8_222 dX8_findWord_8 rfl (Nat.le_of_ble_eq_true rfl) (fun _ => rfl) (fun _ => rfl) (ws' := (W_X8 q_textSize q_cursor q_start q_token q_number q_word q_fault q_line (-1 : Int32) q_foundLine q_deadMany q_deadSize q_deadLeast q_deadMost q_st q_before q_kept q_isKept q_refused q_text q_ones q_said t3.1 t3.2.1 t3.2.2 q_enough q_isWanted q_column q_foundColumn q_walls q_wallMany q_chosen)) rfl (pc' := 11) rfl ?_
  refine mm_aload_n 0 dX8_findWord_11 rfl rfl (pc' := 12) rfl ?_
  refine mm_iload_n 1 dX8_findWord_12 rfl rfl (pc' := 13) rfl ?_
  obtain ⟨t13, h13, h⟩ := mm_bd h
  refine mm_call0 (As := [.int v1]) (rest := []) cV_X8_215 (ok_X8_firstRow h13) ⟨rfl, rfl, Nat.le_of_ble_eq_true rfl, Nat.le_of_ble_eq_true rfl⟩ dX8_findWord_13 rfl rfl rfl rfl (by rintro _ _ ⟨-, rfl⟩; rfl) (Nat.le_of_ble_eq_true rfl) ⟨Nat.le_of_ble_eq_true rfl, Nat.le_of_ble_eq_true rfl⟩ (pc' := 16) rfl ?_
  rintro rv w ⟨rfl, rfl⟩
  show mm_Wp _ _ _ _ 16 [(0, .ref 0), (1, .int v1), (2, .int v2)] [] (W_X8 q_textSize q_cursor q_start q_token q_number q_word q_fault t13.1 (-1 : Int32) q_foundLine q_deadMany q_deadSize q_deadLeast q_deadMost q_st q_before q_kept q_isKept q_refused q_text q_ones q_said t3.1 t3.2.1 t3.2.2 q_enough q_isWanted t13.2 q_foundColumn q_walls q_wallMany q_chosen)
  clear h13
  exact mm_sub [0, 1] rfl (s_X8_findWord_L16  _ _ _ _ _ _ h)

def P_X8_least (q_textSize : Int32) (q_cursor : Int32) (q_start : Int32) (q_token : Int32) (q_number : Int32) (q_word : Int64) (q_fault : Int32) (q_deadMany : Int32) (q_deadSize : Int32) (q_deadLeast : Int32) (q_deadMost : Int32) (q_st : Nat → Int32) (q_before : Nat → Int32) (q_kept : Nat → Int32) (q_isKept : Nat → Int32) (q_text : Nat → Int32) (q_ones : Nat → Int32) (q_said : Nat → Int32) (q_enough : Nat → Int32) (q_isWanted : Nat → Int32) (q_walls : Nat → Int64) (q_wallMany : Nat → Int32) (q_chosen : Nat → Int32) (r : Int32 × Int32 × Int32 × Int32 × (Nat → Int32) × (Nat → Int32) × (Nat → Int32) × (Nat → Int32) × (Nat → Int32) × (Nat → Int32)) : Option Value → mm_W → Prop := fun rv w => rv = some (.int r.1) ∧ w = (W_X8 q_textSize q_cursor q_start q_token q_number q_word q_fault r.2.1 r.2.2.1 r.2.2.2.1 q_deadMany q_deadSize q_deadLeast q_deadMost q_st q_before q_kept q_isKept r.2.2.2.2.1 q_text q_ones q_said r.2.2.2.2.2.1 r.2.2.2.2.2.2.1 r.2.2.2.2.2.2.2.1 q_enough q_isWanted r.2.2.2.2.2.2.2.2.1 r.2.2.2.2.2.2.2.2.2 q_walls q_wallMany q_chosen)
def X8_least_J15 (fu : Nat)  (q_line : Int32) (q_foundPains : Int32) (q_foundLine : Int32) (q_st : Nat → Int32) (q_refused : Nat → Int32) (q_ones : Nat → Int32) (q_readTable : Nat → Int32) (q_least : Nat → Int32) (q_made : Nat → Int32) (q_column : Nat → Int32) (q_foundColumn : Nat → Int32)   : Option (Int32 × Int32 × Int32 × Int32 × (Nat → Int32) × (Nat → Int32) × (Nat → Int32) × (Nat → Int32) × (Nat → Int32) × (Nat → Int32)) := (f_X8_told fu q_refused (-2 : Int32)).bind fun t18 => some (t18.1, q_line, q_foundPains, q_foundLine, t18.2, q_readTable, q_least, q_made, q_column, q_foundColumn)
set_option maxHeartbeats 4000000 in
set_option maxRecDepth 100000 in
theorem s_X8_least_J15 {fu : Nat} {q_textSize : Int32} {q_cursor : Int32} {q_start : Int32} {q_token : Int32} {q_number : Int32} {q_word : Int64} {q_fault : Int32} {q_line : Int32} {q_foundPains : Int32} {q_foundLine : Int32} {q_deadMany : Int32} {q_deadSize : Int32} {q_deadLeast : Int32} {q_deadMost : Int32} {q_st : Nat → Int32} {q_before : Nat → Int32} {q_kept : Nat → Int32} {q_isKept : Nat → Int32} {q_refused : Nat → Int32} {q_text : Nat → Int32} {q_ones : Nat → Int32} {q_said : Nat → Int32} {q_readTable : Nat → Int32} {q_least : Nat → Int32} {q_made : Nat → Int32} {q_enough : Nat → Int32} {q_isWanted : Nat → Int32} {q_column : Nat → Int32} {q_foundColumn : Nat → Int32} {q_walls : Nat → Int64} {q_wallMany : Nat → Int32} {q_chosen : Nat → Int32} {r : Int32 × Int32 × Int32 × Int32 × (Nat → Int32) × (Nat → Int32) × (Nat → Int32) × (Nat → Int32) × (Nat → Int32) × (Nat → Int32)} (h : X8_least_J15 fu q_line q_foundPains q_foundLine q_st q_refused q_ones q_readTable q_least q_made q_column q_foundColumn = some r) : mm_Wp mX8_least (mm_R (P_X8_least q_textSize q_cursor q_start q_token q_number q_word q_fault q_deadMany q_deadSize q_deadLeast q_deadMost q_st q_before q_kept q_isKept q_text q_ones q_said q_enough q_isWanted q_walls q_wallMany q_chosen r)) 0 0 15 [(0, .ref 0)] [] (W_X8 q_textSize q_cursor q_start q_token q_number q_word q_fault q_line q_foundPains q_foundLine q_deadMany q_deadSize q_deadLeast q_deadMost q_st q_before q_kept q_isKept q_refused q_text q_ones q_said q_readTable q_least q_made q_enough q_isWanted q_column q_foundColumn q_walls q_wallMany q_chosen) := by
  rw [X8_least_J15] at h
  refine mm_aload_n 0 dX8_least_15 rfl rfl (pc' := 16) rfl ?_
  refine mm_bipush dX8_least_16 kb_m2 (pc' := 18) rfl ?_
  obtain ⟨t18, h18, h⟩ := mm_bd h
  refine mm_call0 (As := [.int (-2 : Int32)]) (rest := []) cV_X8_92 (ok_X8_told h18) ⟨rfl, rfl, Nat.le_of_ble_eq_true rfl, Nat.le_of_ble_eq_true rfl⟩ dX8_least_18 rfl rfl rfl rfl (by rintro _ _ ⟨-, rfl⟩; rfl) (Nat.le_of_ble_eq_true rfl) ⟨Nat.le_of_ble_eq_true rfl, Nat.le_of_ble_eq_true rfl⟩ (pc' := 21) rfl ?_
  rintro rv w ⟨rfl, rfl⟩
  show mm_Wp _ _ _ _ 21 [(0, .ref 0)] [.int t18.1] (W_X8 q_textSize q_cursor q_start q_token q_number q_word q_fault q_line q_foundPains q_foundLine q_deadMany q_deadSize q_deadLeast q_deadMost q_st q_before q_kept q_isKept t18.2 q_text q_ones q_said q_readTable q_least q_made q_enough q_isWanted q_column q_foundColumn q_walls q_wallMany q_chosen)
  clear h18
  have h9 := Option.some.inj h
  subst h9
  exact mm_iret rfl dX8_least_21 ⟨rfl, rfl⟩
def f_X8_least (fu : Nat) (q_line : Int32) (q_foundPains : Int32) (q_foundLine : Int32) (q_st : Nat → Int32) (q_refused : Nat → Int32) (q_ones : Nat → Int32) (q_readTable : Nat → Int32) (q_least : Nat → Int32) (q_made : Nat → Int32) (q_column : Nat → Int32) (q_foundColumn : Nat → Int32) (v1 : Int32) (v2 : Int32) : Option (Int32 × Int32 × Int32 × Int32 × (Nat → Int32) × (Nat → Int32) × (Nat → Int32) × (Nat → Int32) × (Nat → Int32) × (Nat → Int32)) := (f_X8_isWord fu q_st v1).bind fun t2 => if t2 = 0 then (X8_least_J15 fu q_line q_foundPains q_foundLine q_st q_refused q_ones q_readTable q_least q_made q_column q_foundColumn) else ((f_X8_isHour fu v2).bind fun t9 => if t9 = 0 then (X8_least_J15 fu q_line q_foundPains q_foundLine q_st q_refused q_ones q_readTable q_least q_made q_column q_foundColumn) else ((f_X8_findWord fu q_line q_foundPains q_foundLine q_st q_ones q_readTable q_least q_made q_column q_foundColumn v1 v2).bind fun t25 => some (t25.2.1, t25.1, t25.2.1, t25.2.2.1, q_refused, t25.2.2.2.1, t25.2.2.2.2.1, t25.2.2.2.2.2.1, t25.2.2.2.2.2.2.1, t25.2.2.2.2.2.2.2)))
set_option maxHeartbeats 4000000 in
set_option maxRecDepth 100000 in
theorem ok_X8_least {fu : Nat} {q_textSize : Int32} {q_cursor : Int32} {q_start : Int32} {q_token : Int32} {q_number : Int32} {q_word : Int64} {q_fault : Int32} {q_line : Int32} {q_foundPains : Int32} {q_foundLine : Int32} {q_deadMany : Int32} {q_deadSize : Int32} {q_deadLeast : Int32} {q_deadMost : Int32} {q_st : Nat → Int32} {q_before : Nat → Int32} {q_kept : Nat → Int32} {q_isKept : Nat → Int32} {q_refused : Nat → Int32} {q_text : Nat → Int32} {q_ones : Nat → Int32} {q_said : Nat → Int32} {q_readTable : Nat → Int32} {q_least : Nat → Int32} {q_made : Nat → Int32} {q_enough : Nat → Int32} {q_isWanted : Nat → Int32} {q_column : Nat → Int32} {q_foundColumn : Nat → Int32} {q_walls : Nat → Int64} {q_wallMany : Nat → Int32} {q_chosen : Nat → Int32} {r : Int32 × Int32 × Int32 × Int32 × (Nat → Int32) × (Nat → Int32) × (Nat → Int32) × (Nat → Int32) × (Nat → Int32) × (Nat → Int32)} {v1 : Int32} {v2 : Int32} (h : f_X8_least fu q_line q_foundPains q_foundLine q_st q_refused q_ones q_readTable q_least q_made q_column q_foundColumn v1 v2 = some r) : mm_Ok mX8_least [.ref 0, .int v1, .int v2] (W_X8 q_textSize q_cursor q_start q_token q_number q_word q_fault q_line q_foundPains q_foundLine q_deadMany q_deadSize q_deadLeast q_deadMost q_st q_before q_kept q_isKept q_refused q_text q_ones q_said q_readTable q_least q_made q_enough q_isWanted q_column q_foundColumn q_walls q_wallMany q_chosen) (P_X8_least q_textSize q_cursor q_start q_token q_number q_word q_fault q_deadMany q_deadSize q_deadLeast q_deadMost q_st q_before q_kept q_isKept q_text q_ones q_said q_enough q_isWanted q_walls q_wallMany q_chosen r) := by
  rw [f_X8_least] at h
  refine mm_Ok.of pn_X8 (l := [(0, .ref 0), (1, .int v1), (2, .int v2)]) rfl (Nat.le_of_ble_eq_true rfl) ?_
  refine mm_aload_n 0 dX8_least_0 rfl rfl (pc' := 1) rfl ?_
  refine mm_iload_n 1 dX8_least_1 rfl rfl (pc' := 2) rfl ?_
  obtain ⟨t2, h2, h⟩ := mm_bd h
  refine mm_call0 (As := [.int v1]) (rest := []) cV_X8_234 (ok_X8_isWord h2) ⟨rfl, rfl, Nat.le_of_ble_eq_true rfl, Nat.le_of_ble_eq_true rfl⟩ dX8_least_2 rfl rfl rfl rfl (by rintro _ _ ⟨-, rfl⟩; rfl) (Nat.le_of_ble_eq_true rfl) ⟨Nat.le_of_ble_eq_true rfl, Nat.le_of_ble_eq_true rfl⟩ (pc' := 5) rfl ?_
  rintro rv w ⟨rfl, rfl⟩
  show mm_Wp _ _ _ _ 5 [(0, .ref 0), (1, .int v1), (2, .int v2)] [.int t2] (W_X8 q_textSize q_cursor q_start q_token q_number q_word q_fault q_line q_foundPains q_foundLine q_deadMany q_deadSize q_deadLeast q_deadMost q_st q_before q_kept q_isKept q_refused q_text q_ones q_said q_readTable q_least q_made q_enough q_isWanted q_column q_foundColumn q_walls q_wallMany q_chosen)
  clear h2
  refine mm_if_eq (tgt := 15) dX8_least_5 (by decide) (pc' := 8) rfl (fun c => ?_) (fun c => ?_)
  · replace h := mm_it h c
    clear c
    exact mm_sub [0] rfl (s_X8_least_J15  h)
  · replace h := mm_if h c
    clear c
    refine mm_iload_n 2 dX8_least_8 rfl rfl (pc' := 9) rfl ?_
    obtain ⟨t9, h9, h⟩ := mm_bd h
    refine mm_callS (As := [.int v2]) (rest := []) (av := [.int v2]) (wc := []) (is := []) cS_X8_85 (ok_X8_isHour h9) ⟨rfl, rfl, Nat.le_of_ble_eq_true rfl, Nat.le_of_ble_eq_true rfl⟩ dX8_least_9 rfl rfl rfl ⟨rfl, by decide, by decide⟩ (by rintro _ _ ⟨-, rfl⟩; rfl) (Nat.le_of_ble_eq_true rfl) ⟨Nat.le_of_ble_eq_true rfl, Nat.le_of_ble_eq_true rfl⟩ (pc' := 12) rfl ?_
    rintro rv w ⟨rfl, rfl⟩
    show mm_Wp _ _ _ _ 12 [(0, .ref 0), (1, .int v1), (2, .int v2)] [.int t9] (W_X8 q_textSize q_cursor q_start q_token q_number q_word q_fault q_line q_foundPains q_foundLine q_deadMany q_deadSize q_deadLeast q_deadMost q_st q_before q_kept q_isKept q_refused q_text q_ones q_said q_readTable q_least q_made q_enough q_isWanted q_column q_foundColumn q_walls q_wallMany q_chosen)
    clear h9
    refine mm_if_ne (tgt := 22) dX8_least_12 (by decide) (pc' := 15) rfl (fun c => ?_) (fun c => ?_)
    · replace h := mm_if h c
      clear c
      refine mm_aload_n 0 dX8_least_22 rfl rfl (pc' := 23) rfl ?_
      refine mm_iload_n 1 dX8_least_23 rfl rfl (pc' := 24) rfl ?_
      refine mm_iload_n 2 dX8_least_24 rfl rfl (pc' := 25) rfl ?_
      obtain ⟨t25, h25, h⟩ := mm_bd h
      refine mm_call0 (As := [.int v1, .int v2]) (rest := []) cV_X8_237 (ok_X8_findWord h25) ⟨rfl, rfl, Nat.le_of_ble_eq_true rfl, Nat.le_of_ble_eq_true rfl⟩ dX8_least_25 rfl rfl rfl rfl (by rintro _ _ ⟨-, rfl⟩; rfl) (Nat.le_of_ble_eq_true rfl) ⟨Nat.le_of_ble_eq_true rfl, Nat.le_of_ble_eq_true rfl⟩ (pc' := 28) rfl ?_
      rintro rv w ⟨rfl, rfl⟩
      show mm_Wp _ _ _ _ 28 [(0, .ref 0), (1, .int v1), (2, .int v2)] [] (W_X8 q_textSize q_cursor q_start q_token q_number q_word q_fault t25.1 t25.2.1 t25.2.2.1 q_deadMany q_deadSize q_deadLeast q_deadMost q_st q_before q_kept q_isKept q_refused q_text q_ones q_said t25.2.2.2.1 t25.2.2.2.2.1 t25.2.2.2.2.2.1 q_enough q_isWanted t25.2.2.2.2.2.2.1 t25.2.2.2.2.2.2.2 q_walls q_wallMany q_chosen)
      clear h25
      refine mm_aload_n 0 dX8_least_28 rfl rfl (pc' := 29) rfl ?_
      refine mm_getf fG_X8_222 dX8_least_29 rfl rfl (pc' := 32) rfl ?_
      have h9 := Option.some.inj h
      subst h9
      exact mm_iret rfl dX8_least_32 ⟨rfl, rfl⟩
    · replace h := mm_it h c
      clear c
      exact mm_sub [0] rfl (s_X8_least_J15  h)

def P_X8_box (q_textSize : Int32) (q_cursor : Int32) (q_start : Int32) (q_token : Int32) (q_number : Int32) (q_word : Int64) (q_fault : Int32) (q_deadMany : Int32) (q_deadSize : Int32) (q_deadLeast : Int32) (q_deadMost : Int32) (q_st : Nat → Int32) (q_before : Nat → Int32) (q_kept : Nat → Int32) (q_isKept : Nat → Int32) (q_text : Nat → Int32) (q_ones : Nat → Int32) (q_said : Nat → Int32) (q_enough : Nat → Int32) (q_isWanted : Nat → Int32) (q_walls : Nat → Int64) (q_wallMany : Nat → Int32) (q_chosen : Nat → Int32) (r : Int32 × Int32 × Int32 × Int32 × (Nat → Int32) × (Nat → Int32) × (Nat → Int32) × (Nat → Int32) × (Nat → Int32) × (Nat → Int32)) : Option Value → mm_W → Prop := fun rv w => rv = some (.int r.1) ∧ w = (W_X8 q_textSize q_cursor q_start q_token q_number q_word q_fault r.2.1 r.2.2.1 r.2.2.2.1 q_deadMany q_deadSize q_deadLeast q_deadMost q_st q_before q_kept q_isKept r.2.2.2.2.1 q_text q_ones q_said r.2.2.2.2.2.1 r.2.2.2.2.2.2.1 r.2.2.2.2.2.2.2.1 q_enough q_isWanted r.2.2.2.2.2.2.2.2.1 r.2.2.2.2.2.2.2.2.2 q_walls q_wallMany q_chosen)
def X8_box_J29 (fu : Nat)  (q_line : Int32) (q_foundPains : Int32) (q_foundLine : Int32) (q_st : Nat → Int32) (q_refused : Nat → Int32) (q_ones : Nat → Int32) (q_readTable : Nat → Int32) (q_least : Nat → Int32) (q_made : Nat → Int32) (q_column : Nat → Int32) (q_foundColumn : Nat → Int32)   : Option (Int32 × Int32 × Int32 × Int32 × (Nat → Int32) × (Nat → Int32) × (Nat → Int32) × (Nat → Int32) × (Nat → Int32) × (Nat → Int32)) := (f_X8_told fu q_refused (-10 : Int32)).bind fun t32 => some (t32.1, q_line, q_foundPains, q_foundLine, t32.2, q_readTable, q_least, q_made, q_column, q_foundColumn)
set_option maxHeartbeats 4000000 in
set_option maxRecDepth 100000 in
theorem s_X8_box_J29 {fu : Nat} {q_textSize : Int32} {q_cursor : Int32} {q_start : Int32} {q_token : Int32} {q_number : Int32} {q_word : Int64} {q_fault : Int32} {q_line : Int32} {q_foundPains : Int32} {q_foundLine : Int32} {q_deadMany : Int32} {q_deadSize : Int32} {q_deadLeast : Int32} {q_deadMost : Int32} {q_st : Nat → Int32} {q_before : Nat → Int32} {q_kept : Nat → Int32} {q_isKept : Nat → Int32} {q_refused : Nat → Int32} {q_text : Nat → Int32} {q_ones : Nat → Int32} {q_said : Nat → Int32} {q_readTable : Nat → Int32} {q_least : Nat → Int32} {q_made : Nat → Int32} {q_enough : Nat → Int32} {q_isWanted : Nat → Int32} {q_column : Nat → Int32} {q_foundColumn : Nat → Int32} {q_walls : Nat → Int64} {q_wallMany : Nat → Int32} {q_chosen : Nat → Int32} {r : Int32 × Int32 × Int32 × Int32 × (Nat → Int32) × (Nat → Int32) × (Nat → Int32) × (Nat → Int32) × (Nat → Int32) × (Nat → Int32)} (h : X8_box_J29 fu q_line q_foundPains q_foundLine q_st q_refused q_ones q_readTable q_least q_made q_column q_foundColumn = some r) : mm_Wp mX8_box (mm_R (P_X8_box q_textSize q_cursor q_start q_token q_number q_word q_fault q_deadMany q_deadSize q_deadLeast q_deadMost q_st q_before q_kept q_isKept q_text q_ones q_said q_enough q_isWanted q_walls q_wallMany q_chosen r)) 0 0 29 [(0, .ref 0)] [] (W_X8 q_textSize q_cursor q_start q_token q_number q_word q_fault q_line q_foundPains q_foundLine q_deadMany q_deadSize q_deadLeast q_deadMost q_st q_before q_kept q_isKept q_refused q_text q_ones q_said q_readTable q_least q_made q_enough q_isWanted q_column q_foundColumn q_walls q_wallMany q_chosen) := by
  rw [X8_box_J29] at h
  refine mm_aload_n 0 dX8_box_29 rfl rfl (pc' := 30) rfl ?_
  refine mm_bipush dX8_box_30 kb_m10 (pc' := 32) rfl ?_
  obtain ⟨t32, h32, h⟩ := mm_bd h
  refine mm_call0 (As := [.int (-10 : Int32)]) (rest := []) cV_X8_92 (ok_X8_told h32) ⟨rfl, rfl, Nat.le_of_ble_eq_true rfl, Nat.le_of_ble_eq_true rfl⟩ dX8_box_32 rfl rfl rfl rfl (by rintro _ _ ⟨-, rfl⟩; rfl) (Nat.le_of_ble_eq_true rfl) ⟨Nat.le_of_ble_eq_true rfl, Nat.le_of_ble_eq_true rfl⟩ (pc' := 35) rfl ?_
  rintro rv w ⟨rfl, rfl⟩
  show mm_Wp _ _ _ _ 35 [(0, .ref 0)] [.int t32.1] (W_X8 q_textSize q_cursor q_start q_token q_number q_word q_fault q_line q_foundPains q_foundLine q_deadMany q_deadSize q_deadLeast q_deadMost q_st q_before q_kept q_isKept t32.2 q_text q_ones q_said q_readTable q_least q_made q_enough q_isWanted q_column q_foundColumn q_walls q_wallMany q_chosen)
  clear h32
  have h9 := Option.some.inj h
  subst h9
  exact mm_iret rfl dX8_box_35 ⟨rfl, rfl⟩
def X8_box_J58 (fu : Nat)  (q_line : Int32) (q_foundPains : Int32) (q_foundLine : Int32) (q_st : Nat → Int32) (q_refused : Nat → Int32) (q_ones : Nat → Int32) (q_readTable : Nat → Int32) (q_least : Nat → Int32) (q_made : Nat → Int32) (q_column : Nat → Int32) (q_foundColumn : Nat → Int32)   : Option (Int32 × Int32 × Int32 × Int32 × (Nat → Int32) × (Nat → Int32) × (Nat → Int32) × (Nat → Int32) × (Nat → Int32) × (Nat → Int32)) := some ((-5 : Int32), q_line, q_foundPains, q_foundLine, q_refused, q_readTable, q_least, q_made, q_column, q_foundColumn)
set_option maxHeartbeats 4000000 in
set_option maxRecDepth 100000 in
theorem s_X8_box_J58 {fu : Nat} {q_textSize : Int32} {q_cursor : Int32} {q_start : Int32} {q_token : Int32} {q_number : Int32} {q_word : Int64} {q_fault : Int32} {q_line : Int32} {q_foundPains : Int32} {q_foundLine : Int32} {q_deadMany : Int32} {q_deadSize : Int32} {q_deadLeast : Int32} {q_deadMost : Int32} {q_st : Nat → Int32} {q_before : Nat → Int32} {q_kept : Nat → Int32} {q_isKept : Nat → Int32} {q_refused : Nat → Int32} {q_text : Nat → Int32} {q_ones : Nat → Int32} {q_said : Nat → Int32} {q_readTable : Nat → Int32} {q_least : Nat → Int32} {q_made : Nat → Int32} {q_enough : Nat → Int32} {q_isWanted : Nat → Int32} {q_column : Nat → Int32} {q_foundColumn : Nat → Int32} {q_walls : Nat → Int64} {q_wallMany : Nat → Int32} {q_chosen : Nat → Int32} {r : Int32 × Int32 × Int32 × Int32 × (Nat → Int32) × (Nat → Int32) × (Nat → Int32) × (Nat → Int32) × (Nat → Int32) × (Nat → Int32)} (h : X8_box_J58 fu q_line q_foundPains q_foundLine q_st q_refused q_ones q_readTable q_least q_made q_column q_foundColumn = some r) : mm_Wp mX8_box (mm_R (P_X8_box q_textSize q_cursor q_start q_token q_number q_word q_fault q_deadMany q_deadSize q_deadLeast q_deadMost q_st q_before q_kept q_isKept q_text q_ones q_said q_enough q_isWanted q_walls q_wallMany q_chosen r)) 0 0 58 [] [] (W_X8 q_textSize q_cursor q_start q_token q_number q_word q_fault q_line q_foundPains q_foundLine q_deadMany q_deadSize q_deadLeast q_deadMost q_st q_before q_kept q_isKept q_refused q_text q_ones q_said q_readTable q_least q_made q_enough q_isWanted q_column q_foundColumn q_walls q_wallMany q_chosen) := by
  rw [X8_box_J58] at h
  refine mm_bipush dX8_box_58 kb_m5 (pc' := 60) rfl ?_
  have h9 := Option.some.inj h
  subst h9
  exact mm_iret rfl dX8_box_60 ⟨rfl, rfl⟩
def f_X8_box (fu : Nat) (q_line : Int32) (q_foundPains : Int32) (q_foundLine : Int32) (q_st : Nat → Int32) (q_refused : Nat → Int32) (q_ones : Nat → Int32) (q_readTable : Nat → Int32) (q_least : Nat → Int32) (q_made : Nat → Int32) (q_column : Nat → Int32) (q_foundColumn : Nat → Int32) (v1 : Int32) (v2 : Int32) (v3 : Int32) (v4 : Int32) : Option (Int32 × Int32 × Int32 × Int32 × (Nat → Int32) × (Nat → Int32) × (Nat → Int32) × (Nat → Int32) × (Nat → Int32) × (Nat → Int32)) := (f_X8_isWord fu q_st v1).bind fun t2 => if t2 = 0 then (X8_box_J29 fu q_line q_foundPains q_foundLine q_st q_refused q_ones q_readTable q_least q_made q_column q_foundColumn) else ((f_X8_isHour fu v2).bind fun t9 => if t9 = 0 then (X8_box_J29 fu q_line q_foundPains q_foundLine q_st q_refused q_ones q_readTable q_least q_made q_column q_foundColumn) else (if v3 < 0 then (X8_box_J29 fu q_line q_foundPains q_foundLine q_st q_refused q_ones q_readTable q_least q_made q_column q_foundColumn) else ((f_X8_in fu v4 (0 : Int32) (1 : Int32)).bind fun t23 => if t23 = 0 then (X8_box_J29 fu q_line q_foundPains q_foundLine q_st q_refused q_ones q_readTable q_least q_made q_column q_foundColumn) else ((f_X8_findWord fu q_line q_foundPains q_foundLine q_st q_ones q_readTable q_least q_made q_column q_foundColumn v1 v2).bind fun t39 => if t39.2.1 = (-1 : Int32) then (X8_box_J58 fu t39.1 t39.2.1 t39.2.2.1 q_st q_refused q_ones t39.2.2.2.1 t39.2.2.2.2.1 t39.2.2.2.2.2.1 t39.2.2.2.2.2.2.1 t39.2.2.2.2.2.2.2) else ((f_X8_longOf fu v1).bind fun t52 => if v3 < t52 then (mm_rd t39.2.2.2.2.2.2.2 3 v3 fun x73 => mm_let (((12 : Int32) * t39.2.2.1) + x73) fun y75 => if v4 = 0 then (some (y75, t39.1, t39.2.1, t39.2.2.1, q_refused, t39.2.2.2.1, t39.2.2.2.2.1, t39.2.2.2.2.2.1, t39.2.2.2.2.2.2.1, t39.2.2.2.2.2.2.2)) else (mm_rd t39.2.2.2.2.2.1 72 (((24 : Int32) * v3) + y75) fun x98 => some (x98, t39.1, t39.2.1, t39.2.2.1, q_refused, t39.2.2.2.1, t39.2.2.2.2.1, t39.2.2.2.2.2.1, t39.2.2.2.2.2.2.1, t39.2.2.2.2.2.2.2))) else (X8_box_J58 fu t39.1 t39.2.1 t39.2.2.1 q_st q_refused q_ones t39.2.2.2.1 t39.2.2.2.2.1 t39.2.2.2.2.2.1 t39.2.2.2.2.2.2.1 t39.2.2.2.2.2.2.2))))))
set_option maxHeartbeats 4000000 in
set_option maxRecDepth 100000 in
theorem ok_X8_box {fu : Nat} {q_textSize : Int32} {q_cursor : Int32} {q_start : Int32} {q_token : Int32} {q_number : Int32} {q_word : Int64} {q_fault : Int32} {q_line : Int32} {q_foundPains : Int32} {q_foundLine : Int32} {q_deadMany : Int32} {q_deadSize : Int32} {q_deadLeast : Int32} {q_deadMost : Int32} {q_st : Nat → Int32} {q_before : Nat → Int32} {q_kept : Nat → Int32} {q_isKept : Nat → Int32} {q_refused : Nat → Int32} {q_text : Nat → Int32} {q_ones : Nat → Int32} {q_said : Nat → Int32} {q_readTable : Nat → Int32} {q_least : Nat → Int32} {q_made : Nat → Int32} {q_enough : Nat → Int32} {q_isWanted : Nat → Int32} {q_column : Nat → Int32} {q_foundColumn : Nat → Int32} {q_walls : Nat → Int64} {q_wallMany : Nat → Int32} {q_chosen : Nat → Int32} {r : Int32 × Int32 × Int32 × Int32 × (Nat → Int32) × (Nat → Int32) × (Nat → Int32) × (Nat → Int32) × (Nat → Int32) × (Nat → Int32)} {v1 : Int32} {v2 : Int32} {v3 : Int32} {v4 : Int32} (h : f_X8_box fu q_line q_foundPains q_foundLine q_st q_refused q_ones q_readTable q_least q_made q_column q_foundColumn v1 v2 v3 v4 = some r) : mm_Ok mX8_box [.ref 0, .int v1, .int v2, .int v3, .int v4] (W_X8 q_textSize q_cursor q_start q_token q_number q_word q_fault q_line q_foundPains q_foundLine q_deadMany q_deadSize q_deadLeast q_deadMost q_st q_before q_kept q_isKept q_refused q_text q_ones q_said q_readTable q_least q_made q_enough q_isWanted q_column q_foundColumn q_walls q_wallMany q_chosen) (P_X8_box q_textSize q_cursor q_start q_token q_number q_word q_fault q_deadMany q_deadSize q_deadLeast q_deadMost q_st q_before q_kept q_isKept q_text q_ones q_said q_enough q_isWanted q_walls q_wallMany q_chosen r) := by
  rw [f_X8_box] at h
  refine mm_Ok.of pn_X8 (l := [(0, .ref 0), (1, .int v1), (2, .int v2), (3, .int v3), (4, .int v4)]) rfl (Nat.le_of_ble_eq_true rfl) ?_
  refine mm_aload_n 0 dX8_box_0 rfl rfl (pc' := 1) rfl ?_
  refine mm_iload_n 1 dX8_box_1 rfl rfl (pc' := 2) rfl ?_
  obtain ⟨t2, h2, h⟩ := mm_bd h
  refine mm_call0 (As := [.int v1]) (rest := []) cV_X8_234 (ok_X8_isWord h2) ⟨rfl, rfl, Nat.le_of_ble_eq_true rfl, Nat.le_of_ble_eq_true rfl⟩ dX8_box_2 rfl rfl rfl rfl (by rintro _ _ ⟨-, rfl⟩; rfl) (Nat.le_of_ble_eq_true rfl) ⟨Nat.le_of_ble_eq_true rfl, Nat.le_of_ble_eq_true rfl⟩ (pc' := 5) rfl ?_
  rintro rv w ⟨rfl, rfl⟩
  show mm_Wp _ _ _ _ 5 [(0, .ref 0), (1, .int v1), (2, .int v2), (3, .int v3), (4, .int v4)] [.int t2] (W_X8 q_textSize q_cursor q_start q_token q_number q_word q_fault q_line q_foundPains q_foundLine q_deadMany q_deadSize q_deadLeast q_deadMost q_st q_before q_kept q_isKept q_refused q_text q_ones q_said q_readTable q_least q_made q_enough q_isWanted q_column q_foundColumn q_walls q_wallMany q_chosen)
  clear h2
  refine mm_if_eq (tgt := 29) dX8_box_5 (by decide) (pc' := 8) rfl (fun c => ?_) (fun c => ?_)
  · replace h := mm_it h c
    clear c
    exact mm_sub [0] rfl (s_X8_box_J29  h)
  · replace h := mm_if h c
    clear c
    refine mm_iload_n 2 dX8_box_8 rfl rfl (pc' := 9) rfl ?_
    obtain ⟨t9, h9, h⟩ := mm_bd h
    refine mm_callS (As := [.int v2]) (rest := []) (av := [.int v2]) (wc := []) (is := []) cS_X8_85 (ok_X8_isHour h9) ⟨rfl, rfl, Nat.le_of_ble_eq_true rfl, Nat.le_of_ble_eq_true rfl⟩ dX8_box_9 rfl rfl rfl ⟨rfl, by decide, by decide⟩ (by rintro _ _ ⟨-, rfl⟩; rfl) (Nat.le_of_ble_eq_true rfl) ⟨Nat.le_of_ble_eq_true rfl, Nat.le_of_ble_eq_true rfl⟩ (pc' := 12) rfl ?_
    rintro rv w ⟨rfl, rfl⟩
    show mm_Wp _ _ _ _ 12 [(0, .ref 0), (1, .int v1), (2, .int v2), (3, .int v3), (4, .int v4)] [.int t9] (W_X8 q_textSize q_cursor q_start q_token q_number q_word q_fault q_line q_foundPains q_foundLine q_deadMany q_deadSize q_deadLeast q_deadMost q_st q_before q_kept q_isKept q_refused q_text q_ones q_said q_readTable q_least q_made q_enough q_isWanted q_column q_foundColumn q_walls q_wallMany q_chosen)
    clear h9
    refine mm_if_eq (tgt := 29) dX8_box_12 (by decide) (pc' := 15) rfl (fun c => ?_) (fun c => ?_)
    · replace h := mm_it h c
      clear c
      exact mm_sub [0] rfl (s_X8_box_J29  h)
    · replace h := mm_if h c
      clear c
      refine mm_iload_n 3 dX8_box_15 rfl rfl (pc' := 16) rfl ?_
      refine mm_if_lt (tgt := 29) dX8_box_16 (by decide) (pc' := 19) rfl (fun c => ?_) (fun c => ?_)
      · replace h := mm_it h c
        clear c
        exact mm_sub [0] rfl (s_X8_box_J29  h)
      · replace h := mm_if h c
        clear c
        refine mm_iload 4 dX8_box_19 rfl (pc' := 21) rfl ?_
        refine mm_iconst dX8_box_21 ki_0 (pc' := 22) rfl ?_
        refine mm_iconst dX8_box_22 ki_1 (pc' := 23) rfl ?_
        obtain ⟨t23, h23, h⟩ := mm_bd h
        refine mm_callS (As := [.int v4, .int (0 : Int32), .int (1 : Int32)]) (rest := []) (av := [.int v4, .int (0 : Int32), .int (1 : Int32)]) (wc := []) (is := []) cS_X8_70 (ok_X8_in h23) ⟨rfl, rfl, Nat.le_of_ble_eq_true rfl, Nat.le_of_ble_eq_true rfl⟩ dX8_box_23 rfl rfl rfl ⟨rfl, by decide, by decide⟩ (by rintro _ _ ⟨-, rfl⟩; rfl) (Nat.le_of_ble_eq_true rfl) ⟨Nat.le_of_ble_eq_true rfl, Nat.le_of_ble_eq_true rfl⟩ (pc' := 26) rfl ?_
        rintro rv w ⟨rfl, rfl⟩
        show mm_Wp _ _ _ _ 26 [(0, .ref 0), (1, .int v1), (2, .int v2), (3, .int v3), (4, .int v4)] [.int t23] (W_X8 q_textSize q_cursor q_start q_token q_number q_word q_fault q_line q_foundPains q_foundLine q_deadMany q_deadSize q_deadLeast q_deadMost q_st q_before q_kept q_isKept q_refused q_text q_ones q_said q_readTable q_least q_made q_enough q_isWanted q_column q_foundColumn q_walls q_wallMany q_chosen)
        clear h23
        refine mm_if_ne (tgt := 36) dX8_box_26 (by decide) (pc' := 29) rfl (fun c => ?_) (fun c => ?_)
        · replace h := mm_if h c
          clear c
          refine mm_aload_n 0 dX8_box_36 rfl rfl (pc' := 37) rfl ?_
          refine mm_iload_n 1 dX8_box_37 rfl rfl (pc' := 38) rfl ?_
          refine mm_iload_n 2 dX8_box_38 rfl rfl (pc' := 39) rfl ?_
          obtain ⟨t39, h39, h⟩ := mm_bd h
          refine mm_call0 (As := [.int v1, .int v2]) (rest := []) cV_X8_237 (ok_X8_findWord h39) ⟨rfl, rfl, Nat.le_of_ble_eq_true rfl, Nat.le_of_ble_eq_true rfl⟩ dX8_box_39 rfl rfl rfl rfl (by rintro _ _ ⟨-, rfl⟩; rfl) (Nat.le_of_ble_eq_true rfl) ⟨Nat.le_of_ble_eq_true rfl, Nat.le_of_ble_eq_true rfl⟩ (pc' := 42) rfl ?_
          rintro rv w ⟨rfl, rfl⟩
          show mm_Wp _ _ _ _ 42 [(0, .ref 0), (1, .int v1), (2, .int v2), (3, .int v3), (4, .int v4)] [] (W_X8 q_textSize q_cursor q_start q_token q_number q_word q_fault t39.1 t39.2.1 t39.2.2.1 q_deadMany q_deadSize q_deadLeast q_deadMost q_st q_before q_kept q_isKept q_refused q_text q_ones q_said t39.2.2.2.1 t39.2.2.2.2.1 t39.2.2.2.2.2.1 q_enough q_isWanted t39.2.2.2.2.2.2.1 t39.2.2.2.2.2.2.2 q_walls q_wallMany q_chosen)
          clear h39
          refine mm_aload_n 0 dX8_box_42 rfl rfl (pc' := 43) rfl ?_
          refine mm_getf fG_X8_222 dX8_box_43 rfl rfl (pc' := 46) rfl ?_
          refine mm_iconst dX8_box_46 ki_m1 (pc' := 47) rfl ?_
          refine mm_icmp_eq (tgt := 58) dX8_box_47 (by decide) (pc' := 50) rfl (fun c => ?_) (fun c => ?_)
          · replace h := mm_it h c
            clear c
            exact mm_sub [] rfl (s_X8_box_J58  h)
          · replace h := mm_if h c
            clear c
            refine mm_iload_n 3 dX8_box_50 rfl rfl (pc' := 51) rfl ?_
            refine mm_iload_n 1 dX8_box_51 rfl rfl (pc' := 52) rfl ?_
            obtain ⟨t52, h52, h⟩ := mm_bd h
            refine mm_callS (As := [.int v1]) (rest := [.int v3]) (av := [.int v1]) (wc := []) (is := []) cS_X8_195 (ok_X8_longOf h52) ⟨rfl, rfl, Nat.le_of_ble_eq_true rfl, Nat.le_of_ble_eq_true rfl⟩ dX8_box_52 rfl rfl rfl ⟨rfl, by decide, by decide⟩ (by rintro _ _ ⟨-, rfl⟩; rfl) (Nat.le_of_ble_eq_true rfl) ⟨Nat.le_of_ble_eq_true rfl, Nat.le_of_ble_eq_true rfl⟩ (pc' := 55) rfl ?_
            rintro rv w ⟨rfl, rfl⟩
            show mm_Wp _ _ _ _ 55 [(0, .ref 0), (1, .int v1), (2, .int v2), (3, .int v3), (4, .int v4)] [.int t52, .int v3] (W_X8 q_textSize q_cursor q_start q_token q_number q_word q_fault t39.1 t39.2.1 t39.2.2.1 q_deadMany q_deadSize q_deadLeast q_deadMost q_st q_before q_kept q_isKept q_refused q_text q_ones q_said t39.2.2.2.1 t39.2.2.2.2.1 t39.2.2.2.2.2.1 q_enough q_isWanted t39.2.2.2.2.2.2.1 t39.2.2.2.2.2.2.2 q_walls q_wallMany q_chosen)
            clear h52
            refine mm_icmp_lt (tgt := 61) dX8_box_55 (by decide) (pc' := 58) rfl (fun c => ?_) (fun c => ?_)
            · replace h := mm_it h c
              clear c
              refine mm_bipush dX8_box_61 kb_12 (pc' := 63) rfl ?_
              refine mm_aload_n 0 dX8_box_63 rfl rfl (pc' := 64) rfl ?_
              refine mm_getf fG_X8_228 dX8_box_64 rfl rfl (pc' := 67) rfl ?_
              refine mm_imul dX8_box_67 (pc' := 68) rfl ?_
              refine mm_aload_n 0 dX8_box_68 rfl rfl (pc' := 69) rfl ?_
              refine mm_getf fG_X8_53 dX8_box_69 rfl rfl (pc' := 72) rfl ?_
              refine mm_iload_n 3 dX8_box_72 rfl rfl (pc' := 73) rfl ?_
              obtain ⟨x73, c73, e73, h⟩ := mm_rd_of h
              refine mm_iald dX8_box_73 rfl c73 e73 (pc' := 74) rfl ?_
              clear c73 e73
              refine mm_iadd dX8_box_74 (pc' := 75) rfl ?_
              refine mm_topi (fun y75 e => ?_)
              replace h := mm_let_of h y75 e
              clear e
              refine mm_istore dX8_box_75 (by decide) (l' := [(5, .int y75), (0, .ref 0), (1, .int v1), (2, .int v2), (3, .int v3), (4, .int v4)]) rfl (pc' := 77) rfl ?_
              refine mm_iload 5 dX8_box_77 rfl (pc' := 79) rfl ?_
              refine mm_if_ne (tgt := 87) dX8_box_79 (by decide) (pc' := 82) rfl (fun c => ?_) (fun c => ?_)
              · replace h := mm_if h c
                clear c
                refine mm_aload_n 1 dX8_box_87 rfl rfl (pc' := 88) rfl ?_
                refine mm_getf fG_X8_41 dX8_box_88 rfl rfl (pc' := 91) rfl ?_
                refine mm_bipush dX8_box_91 kb_24 (pc' := 93) rfl ?_
                refine mm_iload_n 4 dX8_box_93 rfl rfl (pc' := 94) rfl ?_
                refine mm_imul dX8_box_94 (pc' := 95) rfl ?_
                refine mm_iload 0 dX8_box_95 rfl (pc' := 97) rfl ?_
                refine mm_iadd dX8_box_97 (pc' := 98) rfl ?_
                obtain ⟨x98, c98, e98, h⟩ := mm_rd_of h
                refine mm_iald dX8_box_98 rfl c98 e98 (pc' := 99) rfl ?_
                clear c98 e98
                have h9 := Option.some.inj h
                subst h9
                exact mm_iret rfl dX8_box_99 ⟨rfl, rfl⟩
              · replace h := mm_it h c
                clear c
                refine mm_iload 0 dX8_box_82 rfl (pc' := 84) rfl ?_
                refine mm_goto (tgt := 99) dX8_box_84 (by decide) ?_
                have h9 := Option.some.inj h
                subst h9
                exact mm_iret rfl dX8_box_99 ⟨rfl, rfl⟩
            · replace h := mm_if h c
              clear c
              exact mm_sub [] rfl (s_X8_box_J58  h)
        · replace h := mm_it h c
          clear c
          exact mm_sub [0] rfl (s_X8_box_J29  h)

def P_X8_wallOf (q_textSize : Int32) (q_cursor : Int32) (q_start : Int32) (q_token : Int32) (q_number : Int32) (q_word : Int64) (q_fault : Int32) (q_line : Int32) (q_foundPains : Int32) (q_foundLine : Int32) (q_deadMany : Int32) (q_deadSize : Int32) (q_deadLeast : Int32) (q_deadMost : Int32) (q_st : Nat → Int32) (q_before : Nat → Int32) (q_kept : Nat → Int32) (q_isKept : Nat → Int32) (q_refused : Nat → Int32) (q_text : Nat → Int32) (q_ones : Nat → Int32) (q_said : Nat → Int32) (q_readTable : Nat → Int32) (q_least : Nat → Int32) (q_made : Nat → Int32) (q_enough : Nat → Int32) (q_isWanted : Nat → Int32) (q_column : Nat → Int32) (q_foundColumn : Nat → Int32) (q_walls : Nat → Int64) (q_wallMany : Nat → Int32) (q_chosen : Nat → Int32) (r : Int64) : Option Value → mm_W → Prop := fun rv w => rv = some (.long r) ∧ w = (W_X8 q_textSize q_cursor q_start q_token q_number q_word q_fault q_line q_foundPains q_foundLine q_deadMany q_deadSize q_deadLeast q_deadMost q_st q_before q_kept q_isKept q_refused q_text q_ones q_said q_readTable q_least q_made q_enough q_isWanted q_column q_foundColumn q_walls q_wallMany q_chosen)
def X8_wallOf_L5 (fu : Nat)  (q_st : Nat → Int32) (v1 : Int32) : Nat → Int64 → Int32 → Option (Int64)
  | 0, _, _ => none
  | n + 1, v2, v4 => if (60 : Int32) ≤ v4 then (some (v2)) else (mm_rd q_st 354 (((96 : Int32) + ((60 : Int32) * v1)) + v4) fun x27 => mm_let (v2 ||| (x27.toInt64 <<< (v4.toInt64 &&& 63))) fun y33 => (X8_wallOf_L5 fu q_st v1 n) y33 (v4 + (1 : Int32)))
set_option maxHeartbeats 4000000 in
set_option maxRecDepth 100000 in
theorem s_X8_wallOf_L5 {fu : Nat} {q_textSize : Int32} {q_cursor : Int32} {q_start : Int32} {q_token : Int32} {q_number : Int32} {q_word : Int64} {q_fault : Int32} {q_line : Int32} {q_foundPains : Int32} {q_foundLine : Int32} {q_deadMany : Int32} {q_deadSize : Int32} {q_deadLeast : Int32} {q_deadMost : Int32} {q_st : Nat → Int32} {q_before : Nat → Int32} {q_kept : Nat → Int32} {q_isKept : Nat → Int32} {q_refused : Nat → Int32} {q_text : Nat → Int32} {q_ones : Nat → Int32} {q_said : Nat → Int32} {q_readTable : Nat → Int32} {q_least : Nat → Int32} {q_made : Nat → Int32} {q_enough : Nat → Int32} {q_isWanted : Nat → Int32} {q_column : Nat → Int32} {q_foundColumn : Nat → Int32} {q_walls : Nat → Int64} {q_wallMany : Nat → Int32} {q_chosen : Nat → Int32} {r : Int64} {v1 : Int32} : ∀ (n : Nat) (v2 : Int64) (v4 : Int32), X8_wallOf_L5 fu q_st v1 n v2 v4 = some r → mm_Wp mX8_wallOf (mm_R (P_X8_wallOf q_textSize q_cursor q_start q_token q_number q_word q_fault q_line q_foundPains q_foundLine q_deadMany q_deadSize q_deadLeast q_deadMost q_st q_before q_kept q_isKept q_refused q_text q_ones q_said q_readTable q_least q_made q_enough q_isWanted q_column q_foundColumn q_walls q_wallMany q_chosen r)) 0 0 5 [(0, .ref 0), (1, .int v1), (2, .long v2), (4, .int v4)] [] (W_X8 q_textSize q_cursor q_start q_token q_number q_word q_fault q_line q_foundPains q_foundLine q_deadMany q_deadSize q_deadLeast q_deadMost q_st q_before q_kept q_isKept q_refused q_text q_ones q_said q_readTable q_least q_made q_enough q_isWanted q_column q_foundColumn q_walls q_wallMany q_chosen) := by
  intro n
  induction n with
  | zero =>
    intro v2 v4 h
    rw [X8_wallOf_L5] at h
    cases h
  | succ n hr5 =>
    intro v2 v4 h
    rw [X8_wallOf_L5] at h
    refine mm_iload 3 dX8_wallOf_5 rfl (pc' := 7) rfl ?_
    refine mm_bipush dX8_wallOf_7 kb_60 (pc' := 9) rfl ?_
    refine mm_icmp_ge (tgt := 40) dX8_wallOf_9 (by decide) (pc' := 12) rfl (fun c => ?_) (fun c => ?_)
    · replace h := mm_it h c
      clear c
      refine mm_lload_n 2 dX8_wallOf_40 rfl rfl (pc' := 41) rfl ?_
      have h9 := Option.some.inj h
      subst h9
      exact mm_lret rfl dX8_wallOf_41 ⟨rfl, rfl⟩
    · replace h := mm_if h c
      clear c
      refine mm_lload_n 2 dX8_wallOf_12 rfl rfl (pc' := 13) rfl ?_
      refine mm_aload_n 0 dX8_wallOf_13 rfl rfl (pc' := 14) rfl ?_
      refine mm_getf fG_X8_7 dX8_wallOf_14 rfl rfl (pc' := 17) rfl ?_
      refine mm_bipush dX8_wallOf_17 kb_96 (pc' := 19) rfl ?_
      refine mm_bipush dX8_wallOf_19 kb_60 (pc' := 21) rfl ?_
      refine mm_iload_n 1 dX8_wallOf_21 rfl rfl (pc' := 22) rfl ?_
      refine mm_imul dX8_wallOf_22 (pc' := 23) rfl ?_
      refine mm_iadd dX8_wallOf_23 (pc' := 24) rfl ?_
      refine mm_iload 3 dX8_wallOf_24 rfl (pc' := 26) rfl ?_
      refine mm_iadd dX8_wallOf_26 (pc' := 27) rfl ?_
      obtain ⟨x27, c27, e27, h⟩ := mm_rd_of h
      refine mm_iald dX8_wallOf_27 rfl c27 e27 (pc' := 28) rfl ?_
      clear c27 e27
      refine mm_i2l dX8_wallOf_28 (pc' := 29) rfl ?_
      refine mm_iload 3 dX8_wallOf_29 rfl (pc' := 31) rfl ?_
      refine mm_lshl dX8_wallOf_31 (pc' := 32) rfl ?_
      refine mm_lor dX8_wallOf_32 (pc' := 33) rfl ?_
      refine mm_topl (fun y33 e => ?_)
      replace h := mm_let_of h y33 e
      clear e
      refine mm_lstore_n dX8_wallOf_33 rfl (by decide) (l' := [(2, .long y33), (0, .ref 0), (1, .int v1), (4, .int v4)]) rfl (pc' := 34) rfl ?_
      refine mm_iinc 3 dX8_wallOf_34 rfl ki_1 (by decide) (l' := [(4, .int (v4 + (1 : Int32))), (2, .long y33), (0, .ref 0), (1, .int v1)]) rfl (pc' := 37) rfl ?_
      refine mm_goto (tgt := 5) dX8_wallOf_37 (by decide) ?_
      exact mm_sub [2, 3, 1, 0] rfl (hr5 _ _ h)
def f_X8_wallOf (fu : Nat) (q_st : Nat → Int32) (v1 : Int32) : Option (Int64) := X8_wallOf_L5 fu q_st v1 fu (0 : Int64) (0 : Int32)
set_option maxHeartbeats 4000000 in
set_option maxRecDepth 100000 in
theorem ok_X8_wallOf {fu : Nat} {q_textSize : Int32} {q_cursor : Int32} {q_start : Int32} {q_token : Int32} {q_number : Int32} {q_word : Int64} {q_fault : Int32} {q_line : Int32} {q_foundPains : Int32} {q_foundLine : Int32} {q_deadMany : Int32} {q_deadSize : Int32} {q_deadLeast : Int32} {q_deadMost : Int32} {q_st : Nat → Int32} {q_before : Nat → Int32} {q_kept : Nat → Int32} {q_isKept : Nat → Int32} {q_refused : Nat → Int32} {q_text : Nat → Int32} {q_ones : Nat → Int32} {q_said : Nat → Int32} {q_readTable : Nat → Int32} {q_least : Nat → Int32} {q_made : Nat → Int32} {q_enough : Nat → Int32} {q_isWanted : Nat → Int32} {q_column : Nat → Int32} {q_foundColumn : Nat → Int32} {q_walls : Nat → Int64} {q_wallMany : Nat → Int32} {q_chosen : Nat → Int32} {r : Int64} {v1 : Int32} (h : f_X8_wallOf fu q_st v1 = some r) : mm_Ok mX8_wallOf [.ref 0, .int v1] (W_X8 q_textSize q_cursor q_start q_token q_number q_word q_fault q_line q_foundPains q_foundLine q_deadMany q_deadSize q_deadLeast q_deadMost q_st q_before q_kept q_isKept q_refused q_text q_ones q_said q_readTable q_least q_made q_enough q_isWanted q_column q_foundColumn q_walls q_wallMany q_chosen) (P_X8_wallOf q_textSize q_cursor q_start q_token q_number q_word q_fault q_line q_foundPains q_foundLine q_deadMany q_deadSize q_deadLeast q_deadMost q_st q_before q_kept q_isKept q_refused q_text q_ones q_said q_readTable q_least q_made q_enough q_isWanted q_column q_foundColumn q_walls q_wallMany q_chosen r) := by
  rw [f_X8_wallOf] at h
  refine mm_Ok.of pn_X8 (l := [(0, .ref 0), (1, .int v1)]) rfl (Nat.le_of_ble_eq_true rfl) ?_
  refine mm_lconst dX8_wallOf_0 (by decide : _ = (0 : Int64)) (pc' := 1) rfl ?_
  refine mm_lstore_n dX8_wallOf_1 rfl (by decide) (l' := [(2, .long (0 : Int64)), (0, .ref 0), (1, .int v1)]) rfl (pc' := 2) rfl ?_
  refine mm_iconst dX8_wallOf_2 ki_0 (pc' := 3) rfl ?_
  refine mm_istore dX8_wallOf_3 (by decide) (l' := [(4, .int (0 : Int32)), (2, .long (0 : Int64)), (0, .ref 0), (1, .int v1)]) rfl (pc' := 5) rfl ?_
  exact mm_sub [2, 3, 1, 0] rfl (s_X8_wallOf_L5  _ _ _ h)

def P_X8_findWalls (q_textSize : Int32) (q_cursor : Int32) (q_start : Int32) (q_token : Int32) (q_number : Int32) (q_word : Int64) (q_fault : Int32) (q_foundPains : Int32) (q_foundLine : Int32) (q_deadMany : Int32) (q_deadSize : Int32) (q_deadLeast : Int32) (q_deadMost : Int32) (q_st : Nat → Int32) (q_before : Nat → Int32) (q_kept : Nat → Int32) (q_isKept : Nat → Int32) (q_refused : Nat → Int32) (q_text : Nat → Int32) (q_ones : Nat → Int32) (q_said : Nat → Int32) (q_readTable : Nat → Int32) (q_least : Nat → Int32) (q_made : Nat → Int32) (q_enough : Nat → Int32) (q_isWanted : Nat → Int32) (q_foundColumn : Nat → Int32) (q_chosen : Nat → Int32) (r : Int32 × (Nat → Int32) × (Nat → Int64) × (Nat → Int32)) : Option Value → mm_W → Prop := fun rv w => rv = none ∧ w = (W_X8 q_textSize q_cursor q_start q_token q_number q_word q_fault r.1 q_foundPains q_foundLine q_deadMany q_deadSize q_deadLeast q_deadMost q_st q_before q_kept q_isKept q_refused q_text q_ones q_said q_readTable q_least q_made q_enough q_isWanted r.2.1 q_foundColumn r.2.2.1 r.2.2.2 q_chosen)
def X8_findWalls_J191 (fu : Nat) (rec12 : Int32 → (Nat → Int32) → (Nat → Int64) → (Nat → Int32) → Option (Int32 × (Nat → Int32) × (Nat → Int64) × (Nat → Int32))) (q_line : Int32) (q_st : Nat → Int32) (q_column : Nat → Int32) (q_walls : Nat → Int64) (q_wallMany : Nat → Int32) (v1 : Int32) (v2 : Int32) (v3 : Int32)  : Option (Int32 × (Nat → Int32) × (Nat → Int64) × (Nat → Int32)) := (f_X8_nextRow fu q_line q_st q_column v2).bind fun t193 => rec12 t193.1 t193.2 q_walls q_wallMany
set_option maxHeartbeats 4000000 in
set_option maxRecDepth 100000 in
theorem s_X8_findWalls_J191 {fu : Nat} {q_textSize : Int32} {q_cursor : Int32} {q_start : Int32} {q_token : Int32} {q_number : Int32} {q_word : Int64} {q_fault : Int32} {q_line : Int32} {q_foundPains : Int32} {q_foundLine : Int32} {q_deadMany : Int32} {q_deadSize : Int32} {q_deadLeast : Int32} {q_deadMost : Int32} {q_st : Nat → Int32} {q_before : Nat → Int32} {q_kept : Nat → Int32} {q_isKept : Nat → Int32} {q_refused : Nat → Int32} {q_text : Nat → Int32} {q_ones : Nat → Int32} {q_said : Nat → Int32} {q_readTable : Nat → Int32} {q_least : Nat → Int32} {q_made : Nat → Int32} {q_enough : Nat → Int32} {q_isWanted : Nat → Int32} {q_column : Nat → Int32} {q_foundColumn : Nat → Int32} {q_walls : Nat → Int64} {q_wallMany : Nat → Int32} {q_chosen : Nat → Int32} {r : Int32 × (Nat → Int32) × (Nat → Int64) × (Nat → Int32)} {rec12 : Int32 → (Nat → Int32) → (Nat → Int64) → (Nat → Int32) → Option (Int32 × (Nat → Int32) × (Nat → Int64) × (Nat → Int32))} {v1 : Int32} {v2 : Int32} {v3 : Int32} (hr12 : ∀ (z_q_line : Int32) (z_q_column : Nat → Int32) (z_q_walls : Nat → Int64) (z_q_wallMany : Nat → Int32), rec12 z_q_line z_q_column z_q_walls z_q_wallMany = some r → mm_Wp mX8_findWalls (mm_R (P_X8_findWalls q_textSize q_cursor q_start q_token q_number q_word q_fault q_foundPains q_foundLine q_deadMany q_deadSize q_deadLeast q_deadMost q_st q_before q_kept q_isKept q_refused q_text q_ones q_said q_readTable q_least q_made q_enough q_isWanted q_foundColumn q_chosen r)) 0 0 12 [(0, .ref 0), (1, .int v1), (2, .int v2), (3, .int v3)] [] (W_X8 q_textSize q_cursor q_start q_token q_number q_word q_fault z_q_line q_foundPains q_foundLine q_deadMany q_deadSize q_deadLeast q_deadMost q_st q_before q_kept q_isKept q_refused q_text q_ones q_said q_readTable q_least q_made q_enough q_isWanted z_q_column q_foundColumn z_q_walls z_q_wallMany q_chosen)) (h : X8_findWalls_J191 fu rec12 q_line q_st q_column q_walls q_wallMany v1 v2 v3 = some r) : mm_Wp mX8_findWalls (mm_R (P_X8_findWalls q_textSize q_cursor q_start q_token q_number q_word q_fault q_foundPains q_foundLine q_deadMany q_deadSize q_deadLeast q_deadMost q_st q_before q_kept q_isKept q_refused q_text q_ones q_said q_readTable q_least q_made q_enough q_isWanted q_foundColumn q_chosen r)) 0 0 191 [(0, .ref 0), (1, .int v1), (2, .int v2), (3, .int v3)] [] (W_X8 q_textSize q_cursor q_start q_token q_number q_word q_fault q_line q_foundPains q_foundLine q_deadMany q_deadSize q_deadLeast q_deadMost q_st q_before q_kept q_isKept q_refused q_text q_ones q_said q_readTable q_least q_made q_enough q_isWanted q_column q_foundColumn q_walls q_wallMany q_chosen) := by
  rw [X8_findWalls_J191] at h
  refine mm_aload_n 0 dX8_findWalls_191 rfl rfl (pc' := 192) rfl ?_
  refine mm_iload_n 2 dX8_findWalls_192 rfl rfl (pc' := 193) rfl ?_
  obtain ⟨t193, h193, h⟩ := mm_bd h
  refine mm_call0 (As := [.int v2]) (rest := []) cV_X8_231 (ok_X8_nextRow h193) ⟨rfl, rfl, Nat.le_of_ble_eq_true rfl, Nat.le_of_ble_eq_true rfl⟩ dX8_findWalls_193 rfl rfl rfl rfl (by rintro _ _ ⟨-, rfl⟩; rfl) (Nat.le_of_ble_eq_true rfl) ⟨Nat.le_of_ble_eq_true rfl, Nat.le_of_ble_eq_true rfl⟩ (pc' := 196) rfl ?_
  rintro rv w ⟨rfl, rfl⟩
  show mm_Wp _ _ _ _ 196 [(0, .ref 0), (1, .int v1), (2, .int v2), (3, .int v3)] [] (W_X8 q_textSize q_cursor q_start q_token q_number q_word q_fault t193.1 q_foundPains q_foundLine q_deadMany q_deadSize q_deadLeast q_deadMost q_st q_before q_kept q_isKept q_refused q_text q_ones q_said q_readTable q_least q_made q_enough q_isWanted t193.2 q_foundColumn q_walls q_wallMany q_chosen)
  clear h193
  refine mm_goto (tgt := 12) dX8_findWalls_196 (by decide) ?_
  exact hr12 _ _ _ _ h
def X8_findWalls_L104 (fu : Nat) (rec12 : Int32 → (Nat → Int32) → (Nat → Int64) → (Nat → Int32) → Option (Int32 × (Nat → Int32) × (Nat → Int64) × (Nat → Int32))) (rec33 : Int32 → Int64 → Int32 → Option (Int32 × (Nat → Int32) × (Nat → Int64) × (Nat → Int32))) (q_line : Int32) (q_st : Nat → Int32) (q_column : Nat → Int32) (q_walls : Nat → Int64) (q_wallMany : Nat → Int32) (v1 : Int32) (v2 : Int32) (v3 : Int32) (v4 : Int32) (v7 : Int32) (v8 : Int32) (v9 : Int32) : Nat → Int64 → Int32 → Option (Int32 × (Nat → Int32) × (Nat → Int64) × (Nat → Int32))
  | 0, _, _ => none
  | n + 1, v5, v10 => if (12 : Int32) ≤ v10 then (rec33 v4 v5 (v7 + (1 : Int32))) else ((f_X8_cellOf fu v8 v10).bind fun t118 => (f_X8_cellOf fu v8 v10).bind fun t139 => mm_let ((v5 &&& (((1 : Int64) <<< (t118.toInt64 &&& 63)) ^^^ (-1 : Int64))) ||| ((((v9 >>> (v10 &&& 31)) &&& (1 : Int32)).toInt64) <<< (t139.toInt64 &&& 63))) fun y144 => (X8_findWalls_L104 fu rec12 rec33 q_line q_st q_column q_walls q_wallMany v1 v2 v3 v4 v7 v8 v9 n) y144 (v10 + (1 : Int32)))
set_option maxHeartbeats 4000000 in
set_option maxRecDepth 100000 in
theorem s_X8_findWalls_L104 {fu : Nat} {q_textSize : Int32} {q_cursor : Int32} {q_start : Int32} {q_token : Int32} {q_number : Int32} {q_word : Int64} {q_fault : Int32} {q_line : Int32} {q_foundPains : Int32} {q_foundLine : Int32} {q_deadMany : Int32} {q_deadSize : Int32} {q_deadLeast : Int32} {q_deadMost : Int32} {q_st : Nat → Int32} {q_before : Nat → Int32} {q_kept : Nat → Int32} {q_isKept : Nat → Int32} {q_refused : Nat → Int32} {q_text : Nat → Int32} {q_ones : Nat → Int32} {q_said : Nat → Int32} {q_readTable : Nat → Int32} {q_least : Nat → Int32} {q_made : Nat → Int32} {q_enough : Nat → Int32} {q_isWanted : Nat → Int32} {q_column : Nat → Int32} {q_foundColumn : Nat → Int32} {q_walls : Nat → Int64} {q_wallMany : Nat → Int32} {q_chosen : Nat → Int32} {r : Int32 × (Nat → Int32) × (Nat → Int64) × (Nat → Int32)} {rec12 : Int32 → (Nat → Int32) → (Nat → Int64) → (Nat → Int32) → Option (Int32 × (Nat → Int32) × (Nat → Int64) × (Nat → Int32))} {rec33 : Int32 → Int64 → Int32 → Option (Int32 × (Nat → Int32) × (Nat → Int64) × (Nat → Int32))} {v1 : Int32} {v2 : Int32} {v3 : Int32} {v4 : Int32} {v7 : Int32} {v8 : Int32} {v9 : Int32} (hr12 : ∀ (z_q_line : Int32) (z_q_column : Nat → Int32) (z_q_walls : Nat → Int64) (z_q_wallMany : Nat → Int32), rec12 z_q_line z_q_column z_q_walls z_q_wallMany = some r → mm_Wp mX8_findWalls (mm_R (P_X8_findWalls q_textSize q_cursor q_start q_token q_number q_word q_fault q_foundPains q_foundLine q_deadMany q_deadSize q_deadLeast q_deadMost q_st q_before q_kept q_isKept q_refused q_text q_ones q_said q_readTable q_least q_made q_enough q_isWanted q_foundColumn q_chosen r)) 0 0 12 [(0, .ref 0), (1, .int v1), (2, .int v2), (3, .int v3)] [] (W_X8 q_textSize q_cursor q_start q_token q_number q_word q_fault z_q_line q_foundPains q_foundLine q_deadMany q_deadSize q_deadLeast q_deadMost q_st q_before q_kept q_isKept q_refused q_text q_ones q_said q_readTable q_least q_made q_enough q_isWanted z_q_column q_foundColumn z_q_walls z_q_wallMany q_chosen)) (hr33 : ∀ (y4 : Int32) (y5 : Int64) (y7 : Int32), rec33 y4 y5 y7 = some r → mm_Wp mX8_findWalls (mm_R (P_X8_findWalls q_textSize q_cursor q_start q_token q_number q_word q_fault q_foundPains q_foundLine q_deadMany q_deadSize q_deadLeast q_deadMost q_st q_before q_kept q_isKept q_refused q_text q_ones q_said q_readTable q_least q_made q_enough q_isWanted q_foundColumn q_chosen r)) 0 0 33 [(0, .ref 0), (1, .int v1), (2, .int v2), (3, .int v3), (4, .int y4), (5, .long y5), (7, .int y7)] [] (W_X8 q_textSize q_cursor q_start q_token q_number q_word q_fault q_line q_foundPains q_foundLine q_deadMany q_deadSize q_deadLeast q_deadMost q_st q_before q_kept q_isKept q_refused q_text q_ones q_said q_readTable q_least q_made q_enough q_isWanted q_column q_foundColumn q_walls q_wallMany q_chosen)) : ∀ (n : Nat) (v5 : Int64) (v10 : Int32), X8_findWalls_L104 fu rec12 rec33 q_line q_st q_column q_walls q_wallMany v1 v2 v3 v4 v7 v8 v9 n v5 v10 = some r → mm_Wp mX8_findWalls (mm_R (P_X8_findWalls q_textSize q_cursor q_start q_token q_number q_word q_fault q_foundPains q_foundLine q_deadMany q_deadSize q_deadLeast q_deadMost q_st q_before q_kept q_isKept q_refused q_text q_ones q_said q_readTable q_least q_made q_enough q_isWanted q_foundColumn q_chosen r)) 0 0 104 [(0, .ref 0), (1, .int v1), (2, .int v2), (3, .int v3), (4, .int v4), (5, .long v5), (7, .int v7), (8, .int v8), (9, .int v9), (10, .int v10)] [] (W_X8 q_textSize q_cursor q_start q_token q_number q_word q_fault q_line q_foundPains q_foundLine q_deadMany q_deadSize q_deadLeast q_deadMost q_st q_before q_kept q_isKept q_refused q_text q_ones q_said q_readTable q_least q_made q_enough q_isWanted q_column q_foundColumn q_walls q_wallMany q_chosen) := by
  intro n
  induction n with
  | zero =>
    intro v5 v10 h
    rw [X8_findWalls_L104] at h
    cases h
  | succ n hr104 =>
    intro v5 v10 h
    rw [X8_findWalls_L104] at h
    refine mm_iload 9 dX8_findWalls_104 rfl (pc' := 106) rfl ?_
    refine mm_bipush dX8_findWalls_106 kb_12 (pc' := 108) rfl ?_
    refine mm_icmp_ge (tgt := 152) dX8_findWalls_108 (by decide) (pc' := 111) rfl (fun c => ?_) (fun c => ?_)
    · replace h := mm_it h c
      clear c
      refine mm_iinc 6 dX8_findWalls_152 rfl ki_1 (by decide) (l' := [(7, .int (v7 + (1 : Int32))), (0, .ref 0), (1, .int v1), (2, .int v2), (3, .int v3), (4, .int v4), (5, .long v5), (8, .int v8), (9, .int v9), (10, .int v10)]) rfl (pc' := 155) rfl ?_
      refine mm_goto (tgt := 33) dX8_findWalls_155 (by decide) ?_
      exact mm_sub [1, 2, 3, 4, 5, 6, 0] rfl (hr33 _ _ _ h)
    · replace h := mm_if h c
      clear c
      refine mm_lload 5 dX8_findWalls_111 rfl (pc' := 113) rfl ?_
      refine mm_lconst dX8_findWalls_113 (by decide : _ = (1 : Int64)) (pc' := 114) rfl ?_
      refine mm_iload 7 dX8_findWalls_114 rfl (pc' := 116) rfl ?_
      refine mm_iload 9 dX8_findWalls_116 rfl (pc' := 118) rfl ?_
      obtain ⟨t118, h118, h⟩ := mm_bd h
      refine mm_callS (As := [.int v8, .int v10]) (rest := [.long (1 : Int64), .long v5]) (av := [.int v8, .int v10]) (wc := []) (is := []) cS_X8_183 (ok_X8_cellOf h118) ⟨rfl, rfl, Nat.le_of_ble_eq_true rfl, Nat.le_of_ble_eq_true rfl⟩ dX8_findWalls_118 rfl rfl rfl ⟨rfl, by decide, by decide⟩ (by rintro _ _ ⟨-, rfl⟩; rfl) (Nat.le_of_ble_eq_true rfl) ⟨Nat.le_of_ble_eq_true rfl, Nat.le_of_ble_eq_true rfl⟩ (pc' := 121) rfl ?_
      rintro rv w ⟨rfl, rfl⟩
      show mm_Wp _ _ _ _ 121 [(0, .ref 0), (1, .int v1), (2, .int v2), (3, .int v3), (4, .int v4), (5, .long v5), (7, .int v7), (8, .int v8), (9, .int v9), (10, .int v10)] [.int t118, .long (1 : Int64), .long v5] (W_X8 q_textSize q_cursor q_start q_token q_number q_word q_fault q_line q_foundPains q_foundLine q_deadMany q_deadSize q_deadLeast q_deadMost q_st q_before q_kept q_isKept q_refused q_text q_ones q_said q_readTable q_least q_made q_enough q_isWanted q_column q_foundColumn q_walls q_wallMany q_chosen)
      clear h118
      refine mm_lshl dX8_findWalls_121 (pc' := 122) rfl ?_
      refine mm_ldc2 kC_X8_244 dX8_findWalls_122 (pc' := 125) rfl ?_
      refine mm_lxor dX8_findWalls_125 (pc' := 126) rfl ?_
      refine mm_land dX8_findWalls_126 (pc' := 127) rfl ?_
      refine mm_iload 8 dX8_findWalls_127 rfl (pc' := 129) rfl ?_
      refine mm_iload 9 dX8_findWalls_129 rfl (pc' := 131) rfl ?_
      refine mm_ishr dX8_findWalls_131 (pc' := 132) rfl ?_
      refine mm_iconst dX8_findWalls_132 ki_1 (pc' := 133) rfl ?_
      refine mm_iand dX8_findWalls_133 (pc' := 134) rfl ?_
      refine mm_i2l dX8_findWalls_134 (pc' := 135) rfl ?_
      refine mm_iload 7 dX8_findWalls_135 rfl (pc' := 137) rfl ?_
      refine mm_iload 9 dX8_findWalls_137 rfl (pc' := 139) rfl ?_
      obtain ⟨t139, h139, h⟩ := mm_bd h
      refine mm_callS (As := [.int v8, .int v10]) (rest := [.long (((v9 >>> (v10 &&& 31)) &&& (1 : Int32)).toInt64), .long (v5 &&& (((1 : Int64) <<< (t118.toInt64 &&& 63)) ^^^ (-1 : Int64)))]) (av := [.int v8, .int v10]) (wc := []) (is := []) cS_X8_183 (ok_X8_cellOf h139) ⟨rfl, rfl, Nat.le_of_ble_eq_true rfl, Nat.le_of_ble_eq_true rfl⟩ dX8_findWalls_139 rfl rfl rfl ⟨rfl, by decide, by decide⟩ (by rintro _ _ ⟨-, rfl⟩; rfl) (Nat.le_of_ble_eq_true rfl) ⟨Nat.le_of_ble_eq_true rfl, Nat.le_of_ble_eq_true rfl⟩ (pc' := 142) rfl ?_
      rintro rv w ⟨rfl, rfl⟩
      show mm_Wp _ _ _ _ 142 [(0, .ref 0), (1, .int v1), (2, .int v2), (3, .int v3), (4, .int v4), (5, .long v5), (7, .int v7), (8, .int v8), (9, .int v9), (10, .int v10)] [.int t139, .long (((v9 >>> (v10 &&& 31)) &&& (1 : Int32)).toInt64), .long (v5 &&& (((1 : Int64) <<< (t118.toInt64 &&& 63)) ^^^ (-1 : Int64)))] (W_X8 q_textSize q_cursor q_start q_token q_number q_word q_fault q_line q_foundPains q_foundLine q_deadMany q_deadSize q_deadLeast q_deadMost q_st q_before q_kept q_isKept q_refused q_text q_ones q_said q_readTable q_least q_made q_enough q_isWanted q_column q_foundColumn q_walls q_wallMany q_chosen)
      clear h139
      refine mm_lshl dX8_findWalls_142 (pc' := 143) rfl ?_
      refine mm_lor dX8_findWalls_143 (pc' := 144) rfl ?_
      refine mm_topl (fun y144 e => ?_)
      replace h := mm_let_of h y144 e
      clear e
      refine mm_lstore dX8_findWalls_144 (by decide) (l' := [(5, .long y144), (0, .ref 0), (1, .int v1), (2, .int v2), (3, .int v3), (4, .int v4), (7, .int v7), (8, .int v8), (9, .int v9), (10, .int v10)]) rfl (pc' := 146) rfl ?_
      refine mm_iinc 9 dX8_findWalls_146 rfl ki_1 (by decide) (l' := [(10, .int (v10 + (1 : Int32))), (5, .long y144), (0, .ref 0), (1, .int v1), (2, .int v2), (3, .int v3), (4, .int v4), (7, .int v7), (8, .int v8), (9, .int v9)]) rfl (pc' := 149) rfl ?_
      refine mm_goto (tgt := 104) dX8_findWalls_149 (by decide) ?_
      exact mm_sub [2, 3, 4, 5, 6, 1, 7, 8, 9, 0] rfl (hr104 _ _ h)
def X8_findWalls_J99 (fu : Nat) (rec12 : Int32 → (Nat → Int32) → (Nat → Int64) → (Nat → Int32) → Option (Int32 × (Nat → Int32) × (Nat → Int64) × (Nat → Int32))) (rec33 : Int32 → Int64 → Int32 → Option (Int32 × (Nat → Int32) × (Nat → Int64) × (Nat → Int32))) (q_line : Int32) (q_st : Nat → Int32) (q_column : Nat → Int32) (q_walls : Nat → Int64) (q_wallMany : Nat → Int32) (v1 : Int32) (v2 : Int32) (v3 : Int32) (v5 : Int64) (v7 : Int32) (v8 : Int32) (v9 : Int32) (s0 : Int32) : Option (Int32 × (Nat → Int32) × (Nat → Int64) × (Nat → Int32)) := X8_findWalls_L104 fu rec12 rec33 q_line q_st q_column q_walls q_wallMany v1 v2 v3 s0 v7 v8 v9 fu v5 (0 : Int32)
set_option maxHeartbeats 4000000 in
set_option maxRecDepth 100000 in
theorem s_X8_findWalls_J99 {fu : Nat} {q_textSize : Int32} {q_cursor : Int32} {q_start : Int32} {q_token : Int32} {q_number : Int32} {q_word : Int64} {q_fault : Int32} {q_line : Int32} {q_foundPains : Int32} {q_foundLine : Int32} {q_deadMany : Int32} {q_deadSize : Int32} {q_deadLeast : Int32} {q_deadMost : Int32} {q_st : Nat → Int32} {q_before : Nat → Int32} {q_kept : Nat → Int32} {q_isKept : Nat → Int32} {q_refused : Nat → Int32} {q_text : Nat → Int32} {q_ones : Nat → Int32} {q_said : Nat → Int32} {q_readTable : Nat → Int32} {q_least : Nat → Int32} {q_made : Nat → Int32} {q_enough : Nat → Int32} {q_isWanted : Nat → Int32} {q_column : Nat → Int32} {q_foundColumn : Nat → Int32} {q_walls : Nat → Int64} {q_wallMany : Nat → Int32} {q_chosen : Nat → Int32} {r : Int32 × (Nat → Int32) × (Nat → Int64) × (Nat → Int32)} {rec12 : Int32 → (Nat → Int32) → (Nat → Int64) → (Nat → Int32) → Option (Int32 × (Nat → Int32) × (Nat → Int64) × (Nat → Int32))} {rec33 : Int32 → Int64 → Int32 → Option (Int32 × (Nat → Int32) × (Nat → Int64) × (Nat → Int32))} {v1 : Int32} {v2 : Int32} {v3 : Int32} {v5 : Int64} {v7 : Int32} {v8 : Int32} {v9 : Int32} {s0 : Int32} (hr12 : ∀ (z_q_line : Int32) (z_q_column : Nat → Int32) (z_q_walls : Nat → Int64) (z_q_wallMany : Nat → Int32), rec12 z_q_line z_q_column z_q_walls z_q_wallMany = some r → mm_Wp mX8_findWalls (mm_R (P_X8_findWalls q_textSize q_cursor q_start q_token q_number q_word q_fault q_foundPains q_foundLine q_deadMany q_deadSize q_deadLeast q_deadMost q_st q_before q_kept q_isKept q_refused q_text q_ones q_said q_readTable q_least q_made q_enough q_isWanted q_foundColumn q_chosen r)) 0 0 12 [(0, .ref 0), (1, .int v1), (2, .int v2), (3, .int v3)] [] (W_X8 q_textSize q_cursor q_start q_token q_number q_word q_fault z_q_line q_foundPains q_foundLine q_deadMany q_deadSize q_deadLeast q_deadMost q_st q_before q_kept q_isKept q_refused q_text q_ones q_said q_readTable q_least q_made q_enough q_isWanted z_q_column q_foundColumn z_q_walls z_q_wallMany q_chosen)) (hr33 : ∀ (y4 : Int32) (y5 : Int64) (y7 : Int32), rec33 y4 y5 y7 = some r → mm_Wp mX8_findWalls (mm_R (P_X8_findWalls q_textSize q_cursor q_start q_token q_number q_word q_fault q_foundPains q_foundLine q_deadMany q_deadSize q_deadLeast q_deadMost q_st q_before q_kept q_isKept q_refused q_text q_ones q_said q_readTable q_least q_made q_enough q_isWanted q_foundColumn q_chosen r)) 0 0 33 [(0, .ref 0), (1, .int v1), (2, .int v2), (3, .int v3), (4, .int y4), (5, .long y5), (7, .int y7)] [] (W_X8 q_textSize q_cursor q_start q_token q_number q_word q_fault q_line q_foundPains q_foundLine q_deadMany q_deadSize q_deadLeast q_deadMost q_st q_before q_kept q_isKept q_refused q_text q_ones q_said q_readTable q_least q_made q_enough q_isWanted q_column q_foundColumn q_walls q_wallMany q_chosen)) (h : X8_findWalls_J99 fu rec12 rec33 q_line q_st q_column q_walls q_wallMany v1 v2 v3 v5 v7 v8 v9 s0 = some r) : mm_Wp mX8_findWalls (mm_R (P_X8_findWalls q_textSize q_cursor q_start q_token q_number q_word q_fault q_foundPains q_foundLine q_deadMany q_deadSize q_deadLeast q_deadMost q_st q_before q_kept q_isKept q_refused q_text q_ones q_said q_readTable q_least q_made q_enough q_isWanted q_foundColumn q_chosen r)) 0 0 99 [(0, .ref 0), (1, .int v1), (2, .int v2), (3, .int v3), (5, .long v5), (7, .int v7), (8, .int v8), (9, .int v9)] [.int s0] (W_X8 q_textSize q_cursor q_start q_token q_number q_word q_fault q_line q_foundPains q_foundLine q_deadMany q_deadSize q_deadLeast q_deadMost q_st q_before q_kept q_isKept q_refused q_text q_ones q_said q_readTable q_least q_made q_enough q_isWanted q_column q_foundColumn q_walls q_wallMany q_chosen) := by
  rw [X8_findWalls_J99] at h
  refine mm_istore dX8_findWalls_99 (by decide) (l' := [(4, .int s0), (0, .ref 0), (1, .int v1), (2, .int v2), (3, .int v3), (5, .long v5), (7, .int v7), (8, .int v8), (9, .int v9)]) rfl (pc' := 101) rfl ?_
  refine mm_iconst dX8_findWalls_101 ki_0 (pc' := 102) rfl ?_
  refine mm_istore dX8_findWalls_102 (by decide) (l' := [(10, .int (0 : Int32)), (4, .int s0), (0, .ref 0), (1, .int v1), (2, .int v2), (3, .int v3), (5, .long v5), (7, .int v7), (8, .int v8), (9, .int v9)]) rfl (pc' := 104) rfl ?_
  exact mm_sub [2, 3, 4, 5, 1, 6, 7, 8, 9, 0] rfl (s_X8_findWalls_L104 (hr12 := hr12) (hr33 := hr33) _ _ _ h)
def X8_findWalls_J98 (fu : Nat) (rec12 : Int32 → (Nat → Int32) → (Nat → Int64) → (Nat → Int32) → Option (Int32 × (Nat → Int32) × (Nat → Int64) × (Nat → Int32))) (rec33 : Int32 → Int64 → Int32 → Option (Int32 × (Nat → Int32) × (Nat → Int64) × (Nat → Int32))) (q_line : Int32) (q_st : Nat → Int32) (q_column : Nat → Int32) (q_walls : Nat → Int64) (q_wallMany : Nat → Int32) (v1 : Int32) (v2 : Int32) (v3 : Int32) (v5 : Int64) (v7 : Int32) (v8 : Int32) (v9 : Int32)  : Option (Int32 × (Nat → Int32) × (Nat → Int64) × (Nat → Int32)) := X8_findWalls_J99 fu rec12 rec33 q_line q_st q_column q_walls q_wallMany v1 v2 v3 v5 v7 v8 v9 (0 : Int32)
set_option maxHeartbeats 4000000 in
set_option maxRecDepth 100000 in
theorem s_X8_findWalls_J98 {fu : Nat} {q_textSize : Int32} {q_cursor : Int32} {q_start : Int32} {q_token : Int32} {q_number : Int32} {q_word : Int64} {q_fault : Int32} {q_line : Int32} {q_foundPains : Int32} {q_foundLine : Int32} {q_deadMany : Int32} {q_deadSize : Int32} {q_deadLeast : Int32} {q_deadMost : Int32} {q_st : Nat → Int32} {q_before : Nat → Int32} {q_kept : Nat → Int32} {q_isKept : Nat → Int32} {q_refused : Nat → Int32} {q_text : Nat → Int32} {q_ones : Nat → Int32} {q_said : Nat → Int32} {q_readTable : Nat → Int32} {q_least : Nat → Int32} {q_made : Nat → Int32} {q_enough : Nat → Int32} {q_isWanted : Nat → Int32} {q_column : Nat → Int32} {q_foundColumn : Nat → Int32} {q_walls : Nat → Int64} {q_wallMany : Nat → Int32} {q_chosen : Nat → Int32} {r : Int32 × (Nat → Int32) × (Nat → Int64) × (Nat → Int32)} {rec12 : Int32 → (Nat → Int32) → (Nat → Int64) → (Nat → Int32) → Option (Int32 × (Nat → Int32) × (Nat → Int64) × (Nat → Int32))} {rec33 : Int32 → Int64 → Int32 → Option (Int32 × (Nat → Int32) × (Nat → Int64) × (Nat → Int32))} {v1 : Int32} {v2 : Int32} {v3 : Int32} {v5 : Int64} {v7 : Int32} {v8 : Int32} {v9 : Int32} (hr12 : ∀ (z_q_line : Int32) (z_q_column : Nat → Int32) (z_q_walls : Nat → Int64) (z_q_wallMany : Nat → Int32), rec12 z_q_line z_q_column z_q_walls z_q_wallMany = some r → mm_Wp mX8_findWalls (mm_R (P_X8_findWalls q_textSize q_cursor q_start q_token q_number q_word q_fault q_foundPains q_foundLine q_deadMany q_deadSize q_deadLeast q_deadMost q_st q_before q_kept q_isKept q_refused q_text q_ones q_said q_readTable q_least q_made q_enough q_isWanted q_foundColumn q_chosen r)) 0 0 12 [(0, .ref 0), (1, .int v1), (2, .int v2), (3, .int v3)] [] (W_X8 q_textSize q_cursor q_start q_token q_number q_word q_fault z_q_line q_foundPains q_foundLine q_deadMany q_deadSize q_deadLeast q_deadMost q_st q_before q_kept q_isKept q_refused q_text q_ones q_said q_readTable q_least q_made q_enough q_isWanted z_q_column q_foundColumn z_q_walls z_q_wallMany q_chosen)) (hr33 : ∀ (y4 : Int32) (y5 : Int64) (y7 : Int32), rec33 y4 y5 y7 = some r → mm_Wp mX8_findWalls (mm_R (P_X8_findWalls q_textSize q_cursor q_start q_token q_number q_word q_fault q_foundPains q_foundLine q_deadMany q_deadSize q_deadLeast q_deadMost q_st q_before q_kept q_isKept q_refused q_text q_ones q_said q_readTable q_least q_made q_enough q_isWanted q_foundColumn q_chosen r)) 0 0 33 [(0, .ref 0), (1, .int v1), (2, .int v2), (3, .int v3), (4, .int y4), (5, .long y5), (7, .int y7)] [] (W_X8 q_textSize q_cursor q_start q_token q_number q_word q_fault q_line q_foundPains q_foundLine q_deadMany q_deadSize q_deadLeast q_deadMost q_st q_before q_kept q_isKept q_refused q_text q_ones q_said q_readTable q_least q_made q_enough q_isWanted q_column q_foundColumn q_walls q_wallMany q_chosen)) (h : X8_findWalls_J98 fu rec12 rec33 q_line q_st q_column q_walls q_wallMany v1 v2 v3 v5 v7 v8 v9 = some r) : mm_Wp mX8_findWalls (mm_R (P_X8_findWalls q_textSize q_cursor q_start q_token q_number q_word q_fault q_foundPains q_foundLine q_deadMany q_deadSize q_deadLeast q_deadMost q_st q_before q_kept q_isKept q_refused q_text q_ones q_said q_readTable q_least q_made q_enough q_isWanted q_foundColumn q_chosen r)) 0 0 98 [(0, .ref 0), (1, .int v1), (2, .int v2), (3, .int v3), (5, .long v5), (7, .int v7), (8, .int v8), (9, .int v9)] [] (W_X8 q_textSize q_cursor q_start q_token q_number q_word q_fault q_line q_foundPains q_foundLine q_deadMany q_deadSize q_deadLeast q_deadMost q_st q_before q_kept q_isKept q_refused q_text q_ones q_said q_readTable q_least q_made q_enough q_isWanted q_column q_foundColumn q_walls q_wallMany q_chosen) := by
  rw [X8_findWalls_J98] at h
  refine mm_iconst dX8_findWalls_98 ki_0 (pc' := 99) rfl ?_
  exact s_X8_findWalls_J99 (hr12 := hr12) (hr33 := hr33) h
def X8_findWalls_L33 (fu : Nat) (rec12 : Int32 → (Nat → Int32) → (Nat → Int64) → (Nat → Int32) → Option (Int32 × (Nat → Int32) × (Nat → Int64) × (Nat → Int32))) (q_line : Int32) (q_st : Nat → Int32) (q_column : Nat → Int32) (q_walls : Nat → Int64) (q_wallMany : Nat → Int32) (v1 : Int32) (v2 : Int32) (v3 : Int32) : Nat → Int32 → Int64 → Int32 → Option (Int32 × (Nat → Int32) × (Nat → Int64) × (Nat → Int32))
  | 0, _, _, _ => none
  | n + 1, v4, v5, v7 => (f_X8_longOf fu v2).bind fun t36 => if t36 ≤ v7 then (if v4 = 0 then (X8_findWalls_J191 fu rec12 q_line q_st q_column q_walls q_wallMany v1 v2 v3) else (mm_rd q_wallMany 2 v1 fun x176 => mm_ck 128 (((64 : Int32) * v1) + x176) (mm_rd q_wallMany 2 v1 fun x187 => mm_ck 2 v1 (X8_findWalls_J191 fu rec12 q_line q_st q_column (vp_updL q_walls (((64 : Int32) * v1) + x176).toNatClampNeg v5) (upd q_wallMany v1.toNatClampNeg (x187 + (1 : Int32))) v1 v2 v3)))) else (mm_rd q_column 3 v7 fun x55 => mm_let (((12 : Int32) * q_line) + x55) fun y57 => (f_X8_letterOf fu v2 v7).bind fun t68 => mm_rd q_st 354 ((30 : Int32) + t68) fun x72 => if v4 = 0 then (X8_findWalls_J98 fu rec12 (X8_findWalls_L33 fu rec12 q_line q_st q_column q_walls q_wallMany v1 v2 v3 n) q_line q_st q_column q_walls q_wallMany v1 v2 v3 v5 v7 y57 x72) else ((f_X8_priceOf fu q_st v2 v3 y57 x72).bind fun t87 => if t87 = (-1 : Int32) then (X8_findWalls_J98 fu rec12 (X8_findWalls_L33 fu rec12 q_line q_st q_column q_walls q_wallMany v1 v2 v3 n) q_line q_st q_column q_walls q_wallMany v1 v2 v3 v5 v7 y57 x72) else (X8_findWalls_J99 fu rec12 (X8_findWalls_L33 fu rec12 q_line q_st q_column q_walls q_wallMany v1 v2 v3 n) q_line q_st q_column q_walls q_wallMany v1 v2 v3 v5 v7 y57 x72 (1 : Int32))))
set_option maxHeartbeats 4000000 in
set_option maxRecDepth 100000 in
theorem s_X8_findWalls_L33 {fu : Nat} {q_textSize : Int32} {q_cursor : Int32} {q_start : Int32} {q_token : Int32} {q_number : Int32} {q_word : Int64} {q_fault : Int32} {q_line : Int32} {q_foundPains : Int32} {q_foundLine : Int32} {q_deadMany : Int32} {q_deadSize : Int32} {q_deadLeast : Int32} {q_deadMost : Int32} {q_st : Nat → Int32} {q_before : Nat → Int32} {q_kept : Nat → Int32} {q_isKept : Nat → Int32} {q_refused : Nat → Int32} {q_text : Nat → Int32} {q_ones : Nat → Int32} {q_said : Nat → Int32} {q_readTable : Nat → Int32} {q_least : Nat → Int32} {q_made : Nat → Int32} {q_enough : Nat → Int32} {q_isWanted : Nat → Int32} {q_column : Nat → Int32} {q_foundColumn : Nat → Int32} {q_walls : Nat → Int64} {q_wallMany : Nat → Int32} {q_chosen : Nat → Int32} {r : Int32 × (Nat → Int32) × (Nat → Int64) × (Nat → Int32)} {rec12 : Int32 → (Nat → Int32) → (Nat → Int64) → (Nat → Int32) → Option (Int32 × (Nat → Int32) × (Nat → Int64) × (Nat → Int32))} {v1 : Int32} {v2 : Int32} {v3 : Int32} (hr12 : ∀ (z_q_line : Int32) (z_q_column : Nat → Int32) (z_q_walls : Nat → Int64) (z_q_wallMany : Nat → Int32), rec12 z_q_line z_q_column z_q_walls z_q_wallMany = some r → mm_Wp mX8_findWalls (mm_R (P_X8_findWalls q_textSize q_cursor q_start q_token q_number q_word q_fault q_foundPains q_foundLine q_deadMany q_deadSize q_deadLeast q_deadMost q_st q_before q_kept q_isKept q_refused q_text q_ones q_said q_readTable q_least q_made q_enough q_isWanted q_foundColumn q_chosen r)) 0 0 12 [(0, .ref 0), (1, .int v1), (2, .int v2), (3, .int v3)] [] (W_X8 q_textSize q_cursor q_start q_token q_number q_word q_fault z_q_line q_foundPains q_foundLine q_deadMany q_deadSize q_deadLeast q_deadMost q_st q_before q_kept q_isKept q_refused q_text q_ones q_said q_readTable q_least q_made q_enough q_isWanted z_q_column q_foundColumn z_q_walls z_q_wallMany q_chosen)) : ∀ (n : Nat) (v4 : Int32) (v5 : Int64) (v7 : Int32), X8_findWalls_L33 fu rec12 q_line q_st q_column q_walls q_wallMany v1 v2 v3 n v4 v5 v7 = some r → mm_Wp mX8_findWalls (mm_R (P_X8_findWalls q_textSize q_cursor q_start q_token q_number q_word q_fault q_foundPains q_foundLine q_deadMany q_deadSize q_deadLeast q_deadMost q_st q_before q_kept q_isKept q_refused q_text q_ones q_said q_readTable q_least q_made q_enough q_isWanted q_foundColumn q_chosen r)) 0 0 33 [(0, .ref 0), (1, .int v1), (2, .int v2), (3, .int v3), (4, .int v4), (5, .long v5), (7, .int v7)] [] (W_X8 q_textSize q_cursor q_start q_token q_number q_word q_fault q_line q_foundPains q_foundLine q_deadMany q_deadSize q_deadLeast q_deadMost q_st q_before q_kept q_isKept q_refused q_text q_ones q_said q_readTable q_least q_made q_enough q_isWanted q_column q_foundColumn q_walls q_wallMany q_chosen) := by
  intro n
  induction n with
  | zero =>
    intro v4 v5 v7 h
    rw [X8_findWalls_L33] at h
    cases h
  | succ n hr33 =>
    intro v4 v5 v7 h
    rw [X8_findWalls_L33] at h
    refine mm_iload 6 dX8_findWalls_33 rfl (pc' := 35) rfl ?_
    refine mm_iload_n 2 dX8_findWalls_35 rfl rfl (pc' := 36) rfl ?_
    obtain ⟨t36, h36, h⟩ := mm_bd h
    refine mm_callS (As := [.int v2]) (rest := [.int v7]) (av := [.int v2]) (wc := []) (is := []) cS_X8_195 (ok_X8_longOf h36) ⟨rfl, rfl, Nat.le_of_ble_eq_true rfl, Nat.le_of_ble_eq_true rfl⟩ dX8_findWalls_36 rfl rfl rfl ⟨rfl, by decide, by decide⟩ (by rintro _ _ ⟨-, rfl⟩; rfl) (Nat.le_of_ble_eq_true rfl) ⟨Nat.le_of_ble_eq_true rfl, Nat.le_of_ble_eq_true rfl⟩ (pc' := 39) rfl ?_
    rintro rv w ⟨rfl, rfl⟩
    show mm_Wp _ _ _ _ 39 [(0, .ref 0), (1, .int v1), (2, .int v2), (3, .int v3), (4, .int v4), (5, .long v5), (7, .int v7)] [.int t36, .int v7] (W_X8 q_textSize q_cursor q_start q_token q_number q_word q_fault q_line q_foundPains q_foundLine q_deadMany q_deadSize q_deadLeast q_deadMost q_st q_before q_kept q_isKept q_refused q_text q_ones q_said q_readTable q_least q_made q_enough q_isWanted q_column q_foundColumn q_walls q_wallMany q_chosen)
    clear h36
    refine mm_icmp_ge (tgt := 158) dX8_findWalls_39 (by decide) (pc' := 42) rfl (fun c => ?_) (fun c => ?_)
    · replace h := mm_it h c
      clear c
      refine mm_iload 4 dX8_findWalls_158 rfl (pc' := 160) rfl ?_
      refine mm_if_eq (tgt := 191) dX8_findWalls_160 (by decide) (pc' := 163) rfl (fun c => ?_) (fun c => ?_)
      · replace h := mm_it h c
        clear c
        exact mm_sub [0, 1, 2, 3] rfl (s_X8_findWalls_J191 (hr12 := hr12) h)
      · replace h := mm_if h c
        clear c
        refine mm_aload_n 0 dX8_findWalls_163 rfl rfl (pc' := 164) rfl ?_
        refine mm_getf fG_X8_56 dX8_findWalls_164 rfl rfl (pc' := 167) rfl ?_
        refine mm_bipush dX8_findWalls_167 kb_64 (pc' := 169) rfl ?_
        refine mm_iload_n 1 dX8_findWalls_169 rfl rfl (pc' := 170) rfl ?_
        refine mm_imul dX8_findWalls_170 (pc' := 171) rfl ?_
        refine mm_aload_n 0 dX8_findWalls_171 rfl rfl (pc' := 172) rfl ?_
        refine mm_getf fG_X8_60 dX8_findWalls_172 rfl rfl (pc' := 175) rfl ?_
        refine mm_iload_n 1 dX8_findWalls_175 rfl rfl (pc' := 176) rfl ?_
        obtain ⟨x176, c176, e176, h⟩ := mm_rd_of h
        refine mm_iald dX8_findWalls_176 rfl c176 e176 (pc' := 177) rfl ?_
        clear c176 e176
        refine mm_iadd dX8_findWalls_177 (pc' := 178) rfl ?_
        refine mm_lload 5 dX8_findWalls_178 rfl (pc' := 180) rfl ?_
        obtain ⟨c180, h⟩ := mm_ck_of h
        refine mm_last dX8_findWalls_180 rfl c180 rfl (ws' := (W_X8 q_textSize q_cursor q_start q_token q_number q_word q_fault q_line q_foundPains q_foundLine q_deadMany q_deadSize q_deadLeast q_deadMost q_st q_before q_kept q_isKept q_refused q_text q_ones q_said q_readTable q_least q_made q_enough q_isWanted q_column q_foundColumn (vp_updL q_walls (((64 : Int32) * v1) + x176).toNatClampNeg v5) q_wallMany q_chosen)) rfl (pc' := 181) rfl ?_
        clear c180
        refine mm_aload_n 0 dX8_findWalls_181 rfl rfl (pc' := 182) rfl ?_
        refine mm_getf fG_X8_60 dX8_findWalls_182 rfl rfl (pc' := 185) rfl ?_
        refine mm_iload_n 1 dX8_findWalls_185 rfl rfl (pc' := 186) rfl ?_
        refine mm_dup2 dX8_findWalls_186 rfl rfl (pc' := 187) rfl ?_
        obtain ⟨x187, c187, e187, h⟩ := mm_rd_of h
        refine mm_iald dX8_findWalls_187 rfl c187 e187 (pc' := 188) rfl ?_
        clear c187 e187
        refine mm_iconst dX8_findWalls_188 ki_1 (pc' := 189) rfl ?_
        refine mm_iadd dX8_findWalls_189 (pc' := 190) rfl ?_
        obtain ⟨c190, h⟩ := mm_ck_of h
        refine mm_iast dX8_findWalls_190 rfl c190 rfl (ws' := (W_X8 q_textSize q_cursor q_start q_token q_number q_word q_fault q_line q_foundPains q_foundLine q_deadMany q_deadSize q_deadLeast q_deadMost q_st q_before q_kept q_isKept q_refused q_text q_ones q_said q_readTable q_least q_made q_enough q_isWanted q_column q_foundColumn (vp_updL q_walls (((64 : Int32) * v1) + x176).toNatClampNeg v5) (upd q_wallMany v1.toNatClampNeg (x187 + (1 : Int32))) q_chosen)) rfl (pc' := 191) rfl ?_
        clear c190
        exact mm_sub [0, 1, 2, 3] rfl (s_X8_findWalls_J191 (hr12 := hr12) h)
    · replace h := mm_if h c
      clear c
      refine mm_bipush dX8_findWalls_42 kb_12 (pc' := 44) rfl ?_
      refine mm_aload_n 0 dX8_findWalls_44 rfl rfl (pc' := 45) rfl ?_
      refine mm_getf fG_X8_212 dX8_findWalls_45 rfl rfl (pc' := 48) rfl ?_
      refine mm_imul dX8_findWalls_48 (pc' := 49) rfl ?_
      refine mm_aload_n 0 dX8_findWalls_49 rfl rfl (pc' := 50) rfl ?_
      refine mm_getf fG_X8_50 dX8_findWalls_50 rfl rfl (pc' := 53) rfl ?_
      refine mm_iload 6 dX8_findWalls_53 rfl (pc' := 55) rfl ?_
      obtain ⟨x55, c55, e55, h⟩ := mm_rd_of h
      refine mm_iald dX8_findWalls_55 rfl c55 e55 (pc' := 56) rfl ?_
      clear c55 e55
      refine mm_iadd dX8_findWalls_56 (pc' := 57) rfl ?_
      refine mm_topi (fun y57 e => ?_)
      replace h := mm_let_of h y57 e
      clear e
      refine mm_istore dX8_findWalls_57 (by decide) (l' := [(8, .int y57), (0, .ref 0), (1, .int v1), (2, .int v2), (3, .int v3), (4, .int v4), (5, .long v5), (7, .int v7)]) rfl (pc' := 59) rfl ?_
      refine mm_aload_n 1 dX8_findWalls_59 rfl rfl (pc' := 60) rfl ?_
      refine mm_getf fG_X8_7 dX8_findWalls_60 rfl rfl (pc' := 63) rfl ?_
      refine mm_bipush dX8_findWalls_63 kb_30 (pc' := 65) rfl ?_
      refine mm_iload_n 3 dX8_findWalls_65 rfl rfl (pc' := 66) rfl ?_
      refine mm_iload 7 dX8_findWalls_66 rfl (pc' := 68) rfl ?_
      obtain ⟨t68, h68, h⟩ := mm_bd h
      refine mm_callS (As := [.int v2, .int v7]) (rest := [.int (30 : Int32), .ref 1]) (av := [.int v2, .int v7]) (wc := []) (is := []) cS_X8_198 (ok_X8_letterOf h68) ⟨rfl, rfl, Nat.le_of_ble_eq_true rfl, Nat.le_of_ble_eq_true rfl⟩ dX8_findWalls_68 rfl rfl rfl ⟨rfl, by decide, by decide⟩ (by rintro _ _ ⟨-, rfl⟩; rfl) (Nat.le_of_ble_eq_true rfl) ⟨Nat.le_of_ble_eq_true rfl, Nat.le_of_ble_eq_true rfl⟩ (pc' := 71) rfl ?_
      rintro rv w ⟨rfl, rfl⟩
      show mm_Wp _ _ _ _ 71 [(8, .int y57), (0, .ref 0), (1, .int v1), (2, .int v2), (3, .int v3), (4, .int v4), (5, .long v5), (7, .int v7)] [.int t68, .int (30 : Int32), .ref 1] (W_X8 q_textSize q_cursor q_start q_token q_number q_word q_fault q_line q_foundPains q_foundLine q_deadMany q_deadSize q_deadLeast q_deadMost q_st q_before q_kept q_isKept q_refused q_text q_ones q_said q_readTable q_least q_made q_enough q_isWanted q_column q_foundColumn q_walls q_wallMany q_chosen)
      clear h68
      refine mm_iadd dX8_findWalls_71 (pc' := 72) rfl ?_
      obtain ⟨x72, c72, e72, h⟩ := mm_rd_of h
      refine mm_iald dX8_findWalls_72 rfl c72 e72 (pc' := 73) rfl ?_
      clear c72 e72
      refine mm_istore dX8_findWalls_73 (by decide) (l' := [(9, .int x72), (8, .int y57), (0, .ref 0), (1, .int v1), (2, .int v2), (3, .int v3), (4, .int v4), (5, .long v5), (7, .int v7)]) rfl (pc' := 75) rfl ?_
      refine mm_iload 6 dX8_findWalls_75 rfl (pc' := 77) rfl ?_
      refine mm_if_eq (tgt := 98) dX8_findWalls_77 (by decide) (pc' := 80) rfl (fun c => ?_) (fun c => ?_)
      · replace h := mm_it h c
        clear c
        exact mm_sub [2, 3, 4, 5, 7, 8, 1, 0] rfl (s_X8_findWalls_J98 (hr12 := hr12) (hr33 := hr33) h)
      · replace h := mm_if h c
        clear c
        refine mm_aload_n 2 dX8_findWalls_80 rfl rfl (pc' := 81) rfl ?_
        refine mm_iload_n 4 dX8_findWalls_81 rfl rfl (pc' := 82) rfl ?_
        refine mm_iload_n 5 dX8_findWalls_82 rfl rfl (pc' := 83) rfl ?_
        refine mm_iload 1 dX8_findWalls_83 rfl (pc' := 85) rfl ?_
        refine mm_iload 0 dX8_findWalls_85 rfl (pc' := 87) rfl ?_
        obtain ⟨t87, h87, h⟩ := mm_bd h
        refine mm_call0 (As := [.int v2, .int v3, .int y57, .int x72]) (rest := []) cV_X8_201 (ok_X8_priceOf h87) ⟨rfl, rfl, Nat.le_of_ble_eq_true rfl, Nat.le_of_ble_eq_true rfl⟩ dX8_findWalls_87 rfl rfl rfl rfl (by rintro _ _ ⟨-, rfl⟩; rfl) (Nat.le_of_ble_eq_true rfl) ⟨Nat.le_of_ble_eq_true rfl, Nat.le_of_ble_eq_true rfl⟩ (pc' := 90) rfl ?_
        rintro rv w ⟨rfl, rfl⟩
        show mm_Wp _ _ _ _ 90 [(9, .int x72), (8, .int y57), (0, .ref 0), (1, .int v1), (2, .int v2), (3, .int v3), (4, .int v4), (5, .long v5), (7, .int v7)] [.int t87] (W_X8 q_textSize q_cursor q_start q_token q_number q_word q_fault q_line q_foundPains q_foundLine q_deadMany q_deadSize q_deadLeast q_deadMost q_st q_before q_kept q_isKept q_refused q_text q_ones q_said q_readTable q_least q_made q_enough q_isWanted q_column q_foundColumn q_walls q_wallMany q_chosen)
        clear h87
        refine mm_iconst dX8_findWalls_90 ki_m1 (pc' := 91) rfl ?_
        refine mm_icmp_eq (tgt := 98) dX8_findWalls_91 (by decide) (pc' := 94) rfl (fun c => ?_) (fun c => ?_)
        · replace h := mm_it h c
          clear c
          exact mm_sub [2, 3, 4, 5, 7, 8, 1, 0] rfl (s_X8_findWalls_J98 (hr12 := hr12) (hr33 := hr33) h)
        · replace h := mm_if h c
          clear c
          refine mm_iconst dX8_findWalls_94 ki_1 (pc' := 95) rfl ?_
          refine mm_goto (tgt := 99) dX8_findWalls_95 (by decide) ?_
          exact mm_sub [2, 3, 4, 5, 7, 8, 1, 0] rfl (s_X8_findWalls_J99 (hr12 := hr12) (hr33 := hr33) h)
def X8_findWalls_L12 (fu : Nat)  (q_st : Nat → Int32) (v1 : Int32) (v2 : Int32) (v3 : Int32) : Nat → Int32 → (Nat → Int32) → (Nat → Int64) → (Nat → Int32) → Option (Int32 × (Nat → Int32) × (Nat → Int64) × (Nat → Int32))
  | 0, _, _, _, _ => none
  | n + 1, q_line, q_column, q_walls, q_wallMany => (f_X8_isRow fu q_line q_st q_column v2).bind fun t14 => if t14 = 0 then (some (q_line, q_column, q_walls, q_wallMany)) else ((f_X8_wallOf fu q_st v3).bind fun t25 => X8_findWalls_L33 fu (X8_findWalls_L12 fu q_st v1 v2 v3 n) q_line q_st q_column q_walls q_wallMany v1 v2 v3 fu (1 : Int32) t25 (0 : Int32))
set_option maxHeartbeats 4000000 in
set_option maxRecDepth 100000 in
theorem s_X8_findWalls_L12 {fu : Nat} {q_textSize : Int32} {q_cursor : Int32} {q_start : Int32} {q_token : Int32} {q_number : Int32} {q_word : Int64} {q_fault : Int32} {q_foundPains : Int32} {q_foundLine : Int32} {q_deadMany : Int32} {q_deadSize : Int32} {q_deadLeast : Int32} {q_deadMost : Int32} {q_st : Nat → Int32} {q_before : Nat → Int32} {q_kept : Nat → Int32} {q_isKept : Nat → Int32} {q_refused : Nat → Int32} {q_text : Nat → Int32} {q_ones : Nat → Int32} {q_said : Nat → Int32} {q_readTable : Nat → Int32} {q_least : Nat → Int32} {q_made : Nat → Int32} {q_enough : Nat → Int32} {q_isWanted : Nat → Int32} {q_foundColumn : Nat → Int32} {q_chosen : Nat → Int32} {r : Int32 × (Nat → Int32) × (Nat → Int64) × (Nat → Int32)} {v1 : Int32} {v2 : Int32} {v3 : Int32} : ∀ (n : Nat) (q_line : Int32) (q_column : Nat → Int32) (q_walls : Nat → Int64) (q_wallMany : Nat → Int32), X8_findWalls_L12 fu q_st v1 v2 v3 n q_line q_column q_walls q_wallMany = some r → mm_Wp mX8_findWalls (mm_R (P_X8_findWalls q_textSize q_cursor q_start q_token q_number q_word q_fault q_foundPains q_foundLine q_deadMany q_deadSize q_deadLeast q_deadMost q_st q_before q_kept q_isKept q_refused q_text q_ones q_said q_readTable q_least q_made q_enough q_isWanted q_foundColumn q_chosen r)) 0 0 12 [(0, .ref 0), (1, .int v1), (2, .int v2), (3, .int v3)] [] (W_X8 q_textSize q_cursor q_start q_token q_number q_word q_fault q_line q_foundPains q_foundLine q_deadMany q_deadSize q_deadLeast q_deadMost q_st q_before q_kept q_isKept q_refused q_text q_ones q_said q_readTable q_least q_made q_enough q_isWanted q_column q_foundColumn q_walls q_wallMany q_chosen) := by
  intro n
  induction n with
  | zero =>
    intro q_line q_column q_walls q_wallMany h
    rw [X8_findWalls_L12] at h
    cases h
  | succ n hr12 =>
    intro q_line q_column q_walls q_wallMany h
    rw [X8_findWalls_L12] at h
    refine mm_aload_n 0 dX8_findWalls_12 rfl rfl (pc' := 13) rfl ?_
    refine mm_iload_n 2 dX8_findWalls_13 rfl rfl (pc' := 14) rfl ?_
    obtain ⟨t14, h14, h⟩ := mm_bd h
    refine mm_call0 (As := [.int v2]) (rest := []) cV_X8_225 (ok_X8_isRow h14) ⟨rfl, rfl, Nat.le_of_ble_eq_true rfl, Nat.le_of_ble_eq_true rfl⟩ dX8_findWalls_14 rfl rfl rfl rfl (by rintro _ _ ⟨-, rfl⟩; rfl) (Nat.le_of_ble_eq_true rfl) ⟨Nat.le_of_ble_eq_true rfl, Nat.le_of_ble_eq_true rfl⟩ (pc' := 17) rfl ?_
    rintro rv w ⟨rfl, rfl⟩
    show mm_Wp _ _ _ _ 17 [(0, .ref 0), (1, .int v1), (2, .int v2), (3, .int v3)] [.int t14] (W_X8 q_textSize q_cursor q_start q_token q_number q_word q_fault q_line q_foundPains q_foundLine q_deadMany q_deadSize q_deadLeast q_deadMost q_st q_before q_kept q_isKept q_refused q_text q_ones q_said q_readTable q_least q_made q_enough q_isWanted q_column q_foundColumn q_walls q_wallMany q_chosen)
    clear h14
    refine mm_if_eq (tgt := 199) dX8_findWalls_17 (by decide) (pc' := 20) rfl (fun c => ?_) (fun c => ?_)
    · replace h := mm_it h c
      clear c
      have h9 := Option.some.inj h
      subst h9
      exact mm_vret rfl dX8_findWalls_199 ⟨rfl, rfl⟩
    · replace h := mm_if h c
      clear c
      refine mm_iconst dX8_findWalls_20 ki_1 (pc' := 21) rfl ?_
      refine mm_istore dX8_findWalls_21 (by decide) (l' := [(4, .int (1 : Int32)), (0, .ref 0), (1, .int v1), (2, .int v2), (3, .int v3)]) rfl (pc' := 23) rfl ?_
      refine mm_aload_n 1 dX8_findWalls_23 rfl rfl (pc' := 24) rfl ?_
      refine mm_iload_n 4 dX8_findWalls_24 rfl rfl (pc' := 25) rfl ?_
      obtain ⟨t25, h25, h⟩ := mm_bd h
      refine mm_call0 (As := [.int v3]) (rest := []) cV_X8_240 (ok_X8_wallOf h25) ⟨rfl, rfl, Nat.le_of_ble_eq_true rfl, Nat.le_of_ble_eq_true rfl⟩ dX8_findWalls_25 rfl rfl rfl rfl (by rintro _ _ ⟨-, rfl⟩; rfl) (Nat.le_of_ble_eq_true rfl) ⟨Nat.le_of_ble_eq_true rfl, Nat.le_of_ble_eq_true rfl⟩ (pc' := 28) rfl ?_
      rintro rv w ⟨rfl, rfl⟩
      show mm_Wp _ _ _ _ 28 [(4, .int (1 : Int32)), (0, .ref 0), (1, .int v1), (2, .int v2), (3, .int v3)] [.long t25] (W_X8 q_textSize q_cursor q_start q_token q_number q_word q_fault q_line q_foundPains q_foundLine q_deadMany q_deadSize q_deadLeast q_deadMost q_st q_before q_kept q_isKept q_refused q_text q_ones q_said q_readTable q_least q_made q_enough q_isWanted q_column q_foundColumn q_walls q_wallMany q_chosen)
      clear h25
      refine mm_lstore dX8_findWalls_28 (by decide) (l' := [(5, .long t25), (4, .int (1 : Int32)), (0, .ref 0), (1, .int v1), (2, .int v2), (3, .int v3)]) rfl (pc' := 30) rfl ?_
      refine mm_iconst dX8_findWalls_30 ki_0 (pc' := 31) rfl ?_
      refine mm_istore dX8_findWalls_31 (by decide) (l' := [(7, .int (0 : Int32)), (5, .long t25), (4, .int (1 : Int32)), (0, .ref 0), (1, .int v1), (2, .int v2), (3, .int v3)]) rfl (pc' := 33) rfl ?_
      exact mm_sub [3, 4, 5, 6, 2, 1, 0] rfl (s_X8_findWalls_L33 (hr12 := hr12) _ _ _ _ h)
def f_X8_findWalls (fu : Nat) (q_line : Int32) (q_st : Nat → Int32) (q_column : Nat → Int32) (q_walls : Nat → Int64) (q_wallMany : Nat → Int32) (v1 : Int32) (v2 : Int32) (v3 : Int32) : Option (Int32 × (Nat → Int32) × (Nat → Int64) × (Nat → Int32)) := mm_ck 2 v1 ((f_X8_firstRow fu q_line q_column v2).bind fun t9 => X8_findWalls_L12 fu q_st v1 v2 v3 fu t9.1 t9.2 q_walls (upd q_wallMany v1.toNatClampNeg (0 : Int32)))
set_option maxHeartbeats 4000000 in
set_option maxRecDepth 100000 in
theorem ok_X8_findWalls {fu : Nat} {q_textSize : Int32} {q_cursor : Int32} {q_start : Int32} {q_token : Int32} {q_number : Int32} {q_word : Int64} {q_fault : Int32} {q_line : Int32} {q_foundPains : Int32} {q_foundLine : Int32} {q_deadMany : Int32} {q_deadSize : Int32} {q_deadLeast : Int32} {q_deadMost : Int32} {q_st : Nat → Int32} {q_before : Nat → Int32} {q_kept : Nat → Int32} {q_isKept : Nat → Int32} {q_refused : Nat → Int32} {q_text : Nat → Int32} {q_ones : Nat → Int32} {q_said : Nat → Int32} {q_readTable : Nat → Int32} {q_least : Nat → Int32} {q_made : Nat → Int32} {q_enough : Nat → Int32} {q_isWanted : Nat → Int32} {q_column : Nat → Int32} {q_foundColumn : Nat → Int32} {q_walls : Nat → Int64} {q_wallMany : Nat → Int32} {q_chosen : Nat → Int32} {r : Int32 × (Nat → Int32) × (Nat → Int64) × (Nat → Int32)} {v1 : Int32} {v2 : Int32} {v3 : Int32} (h : f_X8_findWalls fu q_line q_st q_column q_walls q_wallMany v1 v2 v3 = some r) : mm_Ok mX8_findWalls [.ref 0, .int v1, .int v2, .int v3] (W_X8 q_textSize q_cursor q_start q_token q_number q_word q_fault q_line q_foundPains q_foundLine q_deadMany q_deadSize q_deadLeast q_deadMost q_st q_before q_kept q_isKept q_refused q_text q_ones q_said q_readTable q_least q_made q_enough q_isWanted q_column q_foundColumn q_walls q_wallMany q_chosen) (P_X8_findWalls q_textSize q_cursor q_start q_token q_number q_word q_fault q_foundPains q_foundLine q_deadMany q_deadSize q_deadLeast q_deadMost q_st q_before q_kept q_isKept q_refused q_text q_ones q_said q_readTable q_least q_made q_enough q_isWanted q_foundColumn q_chosen r) := by
  rw [f_X8_findWalls] at h
  refine mm_Ok.of pn_X8 (l := [(0, .ref 0), (1, .int v1), (2, .int v2), (3, .int v3)]) rfl (Nat.le_of_ble_eq_true rfl) ?_
  refine mm_aload_n 0 dX8_findWalls_0 rfl rfl (pc' := 1) rfl ?_
  refine mm_getf fG_X8_60 dX8_findWalls_1 rfl rfl (pc' := 4) rfl ?_
  refine mm_iload_n 1 dX8_findWalls_4 rfl rfl (pc' := 5) rfl ?_
  refine mm_iconst dX8_findWalls_5 ki_0 (pc' := 6) rfl ?_
  obtain ⟨c6, h⟩ := mm_ck_of h
  refine mm_iast dX8_findWalls_6 rfl c6 rfl (ws' := (W_X8 q_textSize q_cursor q_start q_token q_number q_word q_fault q_line q_foundPains q_foundLine q_deadMany q_deadSize q_deadLeast q_deadMost q_st q_before q_kept q_isKept q_refused q_text q_ones q_said q_readTable q_least q_made q_enough q_isWanted q_column q_foundColumn q_walls (upd q_wallMany v1.toNatClampNeg (0 : Int32)) q_chosen)) rfl (pc' := 7) rfl ?_
  clear c6
  refine mm_aload_n 0 dX8_findWalls_7 rfl rfl (pc' := 8) rfl ?_
  refine mm_iload_n 2 dX8_findWalls_8 rfl rfl (pc' := 9) rfl ?_
  obtain ⟨t9, h9, h⟩ := mm_bd h
  refine mm_call0 (As := [.int v2]) (rest := []) cV_X8_215 (ok_X8_firstRow h9) ⟨rfl, rfl, Nat.le_of_ble_eq_true rfl, Nat.le_of_ble_eq_true rfl⟩ dX8_findWalls_9 rfl rfl rfl rfl (by rintro _ _ ⟨-, rfl⟩; rfl) (Nat.le_of_ble_eq_true rfl) ⟨Nat.le_of_ble_eq_true rfl, Nat.le_of_ble_eq_true rfl⟩ (pc' := 12) rfl ?_
  rintro rv w ⟨rfl, rfl⟩
  show mm_Wp _ _ _ _ 12 [(0, .ref 0), (1, .int v1), (2, .int v2), (3, .int v3)] [] (W_X8 q_textSize q_cursor q_start q_token q_number q_word q_fault t9.1 q_foundPains q_foundLine q_deadMany q_deadSize q_deadLeast q_deadMost q_st q_before q_kept q_isKept q_refused q_text q_ones q_said q_readTable q_least q_made q_enough q_isWanted t9.2 q_foundColumn q_walls (upd q_wallMany v1.toNatClampNeg (0 : Int32)) q_chosen)
  clear h9
  exact s_X8_findWalls_L12  _ _ _ _ _ h

def P_X8_onesOf (q_textSize : Int32) (q_cursor : Int32) (q_start : Int32) (q_token : Int32) (q_number : Int32) (q_word : Int64) (q_fault : Int32) (q_line : Int32) (q_foundPains : Int32) (q_foundLine : Int32) (q_deadMany : Int32) (q_deadSize : Int32) (q_deadLeast : Int32) (q_deadMost : Int32) (q_st : Nat → Int32) (q_before : Nat → Int32) (q_kept : Nat → Int32) (q_isKept : Nat → Int32) (q_refused : Nat → Int32) (q_text : Nat → Int32) (q_ones : Nat → Int32) (q_said : Nat → Int32) (q_readTable : Nat → Int32) (q_least : Nat → Int32) (q_made : Nat → Int32) (q_enough : Nat → Int32) (q_isWanted : Nat → Int32) (q_column : Nat → Int32) (q_foundColumn : Nat → Int32) (q_walls : Nat → Int64) (q_wallMany : Nat → Int32) (q_chosen : Nat → Int32) (r : Int32) : Option Value → mm_W → Prop := fun rv w => rv = some (.int r) ∧ w = (W_X8 q_textSize q_cursor q_start q_token q_number q_word q_fault q_line q_foundPains q_foundLine q_deadMany q_deadSize q_deadLeast q_deadMost q_st q_before q_kept q_isKept q_refused q_text q_ones q_said q_readTable q_least q_made q_enough q_isWanted q_column q_foundColumn q_walls q_wallMany q_chosen)
def X8_onesOf_L5 (fu : Nat)  (q_ones : Nat → Int32) (v1 : Int64) : Nat → Int32 → Int32 → Option (Int32)
  | 0, _, _ => none
  | n + 1, v3, v4 => if (60 : Int32) ≤ v4 then (some (v3)) else (mm_rd q_ones 4096 (((v1 >>> (v4.toInt64 &&& 63)) &&& (4095 : Int64)).toInt32) fun x26 => (X8_onesOf_L5 fu q_ones v1 n) (v3 + x26) (v4 + (12 : Int32)))
set_option maxHeartbeats 4000000 in
set_option maxRecDepth 100000 in
theorem s_X8_onesOf_L5 {fu : Nat} {q_textSize : Int32} {q_cursor : Int32} {q_start : Int32} {q_token : Int32} {q_number : Int32} {q_word : Int64} {q_fault : Int32} {q_line : Int32} {q_foundPains : Int32} {q_foundLine : Int32} {q_deadMany : Int32} {q_deadSize : Int32} {q_deadLeast : Int32} {q_deadMost : Int32} {q_st : Nat → Int32} {q_before : Nat → Int32} {q_kept : Nat → Int32} {q_isKept : Nat → Int32} {q_refused : Nat → Int32} {q_text : Nat → Int32} {q_ones : Nat → Int32} {q_said : Nat → Int32} {q_readTable : Nat → Int32} {q_least : Nat → Int32} {q_made : Nat → Int32} {q_enough : Nat → Int32} {q_isWanted : Nat → Int32} {q_column : Nat → Int32} {q_foundColumn : Nat → Int32} {q_walls : Nat → Int64} {q_wallMany : Nat → Int32} {q_chosen : Nat → Int32} {r : Int32} {v1 : Int64} : ∀ (n : Nat) (v3 : Int32) (v4 : Int32), X8_onesOf_L5 fu q_ones v1 n v3 v4 = some r → mm_Wp mX8_onesOf (mm_R (P_X8_onesOf q_textSize q_cursor q_start q_token q_number q_word q_fault q_line q_foundPains q_foundLine q_deadMany q_deadSize q_deadLeast q_deadMost q_st q_before q_kept q_isKept q_refused q_text q_ones q_said q_readTable q_least q_made q_enough q_isWanted q_column q_foundColumn q_walls q_wallMany q_chosen r)) 0 0 5 [(0, .ref 0), (1, .long v1), (3, .int v3), (4, .int v4)] [] (W_X8 q_textSize q_cursor q_start q_token q_number q_word q_fault q_line q_foundPains q_foundLine q_deadMany q_deadSize q_deadLeast q_deadMost q_st q_before q_kept q_isKept q_refused q_text q_ones q_said q_readTable q_least q_made q_enough q_isWanted q_column q_foundColumn q_walls q_wallMany q_chosen) := by
  intro n
  induction n with
  | zero =>
    intro v3 v4 h
    rw [X8_onesOf_L5] at h
    cases h
  | succ n hr5 =>
    intro v3 v4 h
    rw [X8_onesOf_L5] at h
    refine mm_iload 3 dX8_onesOf_5 rfl (pc' := 7) rfl ?_
    refine mm_bipush dX8_onesOf_7 kb_60 (pc' := 9) rfl ?_
    refine mm_icmp_ge (tgt := 35) dX8_onesOf_9 (by decide) (pc' := 12) rfl (fun c => ?_) (fun c => ?_)
    · replace h := mm_it h c
      clear c
      refine mm_iload_n 2 dX8_onesOf_35 rfl rfl (pc' := 36) rfl ?_
      have h9 := Option.some.inj h
      subst h9
      exact mm_iret rfl dX8_onesOf_36 ⟨rfl, rfl⟩
    · replace h := mm_if h c
      clear c
      refine mm_iload_n 2 dX8_onesOf_12 rfl rfl (pc' := 13) rfl ?_
      refine mm_aload_n 0 dX8_onesOf_13 rfl rfl (pc' := 14) rfl ?_
      refine mm_getf fG_X8_29 dX8_onesOf_14 rfl rfl (pc' := 17) rfl ?_
      refine mm_lload_n 1 dX8_onesOf_17 rfl rfl (pc' := 18) rfl ?_
      refine mm_iload 3 dX8_onesOf_18 rfl (pc' := 20) rfl ?_
      refine mm_lshr dX8_onesOf_20 (pc' := 21) rfl ?_
      refine mm_ldc2 kC_X8_246 dX8_onesOf_21 (pc' := 24) rfl ?_
      refine mm_land dX8_onesOf_24 (pc' := 25) rfl ?_
      refine mm_l2i dX8_onesOf_25 (pc' := 26) rfl ?_
      obtain ⟨x26, c26, e26, h⟩ := mm_rd_of h
      refine mm_iald dX8_onesOf_26 rfl c26 e26 (pc' := 27) rfl ?_
      clear c26 e26
      refine mm_iadd dX8_onesOf_27 (pc' := 28) rfl ?_
      refine mm_istore_n dX8_onesOf_28 rfl (by decide) (l' := [(3, .int (v3 + x26)), (0, .ref 0), (1, .long v1), (4, .int v4)]) rfl (pc' := 29) rfl ?_
      refine mm_iinc 3 dX8_onesOf_29 rfl ki_12 (by decide) (l' := [(4, .int (v4 + (12 : Int32))), (3, .int (v3 + x26)), (0, .ref 0), (1, .long v1)]) rfl (pc' := 32) rfl ?_
      refine mm_goto (tgt := 5) dX8_onesOf_32 (by decide) ?_
      exact mm_sub [2, 3, 1, 0] rfl (hr5 _ _ h)
def f_X8_onesOf (fu : Nat) (q_ones : Nat → Int32) (v1 : Int64) : Option (Int32) := X8_onesOf_L5 fu q_ones v1 fu (0 : Int32) (0 : Int32)
set_option maxHeartbeats 4000000 in
set_option maxRecDepth 100000 in
theorem ok_X8_onesOf {fu : Nat} {q_textSize : Int32} {q_cursor : Int32} {q_start : Int32} {q_token : Int32} {q_number : Int32} {q_word : Int64} {q_fault : Int32} {q_line : Int32} {q_foundPains : Int32} {q_foundLine : Int32} {q_deadMany : Int32} {q_deadSize : Int32} {q_deadLeast : Int32} {q_deadMost : Int32} {q_st : Nat → Int32} {q_before : Nat → Int32} {q_kept : Nat → Int32} {q_isKept : Nat → Int32} {q_refused : Nat → Int32} {q_text : Nat → Int32} {q_ones : Nat → Int32} {q_said : Nat → Int32} {q_readTable : Nat → Int32} {q_least : Nat → Int32} {q_made : Nat → Int32} {q_enough : Nat → Int32} {q_isWanted : Nat → Int32} {q_column : Nat → Int32} {q_foundColumn : Nat → Int32} {q_walls : Nat → Int64} {q_wallMany : Nat → Int32} {q_chosen : Nat → Int32} {r : Int32} {v1 : Int64} (h : f_X8_onesOf fu q_ones v1 = some r) : mm_Ok mX8_onesOf [.ref 0, .long v1] (W_X8 q_textSize q_cursor q_start q_token q_number q_word q_fault q_line q_foundPains q_foundLine q_deadMany q_deadSize q_deadLeast q_deadMost q_st q_before q_kept q_isKept q_refused q_text q_ones q_said q_readTable q_least q_made q_enough q_isWanted q_column q_foundColumn q_walls q_wallMany q_chosen) (P_X8_onesOf q_textSize q_cursor q_start q_token q_number q_word q_fault q_line q_foundPains q_foundLine q_deadMany q_deadSize q_deadLeast q_deadMost q_st q_before q_kept q_isKept q_refused q_text q_ones q_said q_readTable q_least q_made q_enough q_isWanted q_column q_foundColumn q_walls q_wallMany q_chosen r) := by
  rw [f_X8_onesOf] at h
  refine mm_Ok.of pn_X8 (l := [(0, .ref 0), (1, .long v1)]) rfl (Nat.le_of_ble_eq_true rfl) ?_
  refine mm_iconst dX8_onesOf_0 ki_0 (pc' := 1) rfl ?_
  refine mm_istore_n dX8_onesOf_1 rfl (by decide) (l' := [(3, .int (0 : Int32)), (0, .ref 0), (1, .long v1)]) rfl (pc' := 2) rfl ?_
  refine mm_iconst dX8_onesOf_2 ki_0 (pc' := 3) rfl ?_
  refine mm_istore dX8_onesOf_3 (by decide) (l' := [(4, .int (0 : Int32)), (3, .int (0 : Int32)), (0, .ref 0), (1, .long v1)]) rfl (pc' := 5) rfl ?_
  exact mm_sub [2, 3, 1, 0] rfl (s_X8_onesOf_L5  _ _ _ h)

def P_X8_two (q_textSize : Int32) (q_cursor : Int32) (q_start : Int32) (q_token : Int32) (q_number : Int32) (q_word : Int64) (q_fault : Int32) (q_foundPains : Int32) (q_foundLine : Int32) (q_deadMany : Int32) (q_deadSize : Int32) (q_deadLeast : Int32) (q_deadMost : Int32) (q_st : Nat → Int32) (q_before : Nat → Int32) (q_kept : Nat → Int32) (q_isKept : Nat → Int32) (q_text : Nat → Int32) (q_ones : Nat → Int32) (q_said : Nat → Int32) (q_readTable : Nat → Int32) (q_least : Nat → Int32) (q_made : Nat → Int32) (q_enough : Nat → Int32) (q_isWanted : Nat → Int32) (q_foundColumn : Nat → Int32) (q_chosen : Nat → Int32) (r : Int32 × Int32 × (Nat → Int32) × (Nat → Int32) × (Nat → Int64) × (Nat → Int32)) : Option Value → mm_W → Prop := fun rv w => rv = some (.int r.1) ∧ w = (W_X8 q_textSize q_cursor q_start q_token q_number q_word q_fault r.2.1 q_foundPains q_foundLine q_deadMany q_deadSize q_deadLeast q_deadMost q_st q_before q_kept q_isKept r.2.2.1 q_text q_ones q_said q_readTable q_least q_made q_enough q_isWanted r.2.2.2.1 q_foundColumn r.2.2.2.2.1 r.2.2.2.2.2 q_chosen)
def X8_two_J31 (fu : Nat)  (q_line : Int32) (q_st : Nat → Int32) (q_refused : Nat → Int32) (q_ones : Nat → Int32) (q_column : Nat → Int32) (q_walls : Nat → Int64) (q_wallMany : Nat → Int32)   : Option (Int32 × Int32 × (Nat → Int32) × (Nat → Int32) × (Nat → Int64) × (Nat → Int32)) := (f_X8_told fu q_refused (-2 : Int32)).bind fun t34 => some (t34.1, q_line, t34.2, q_column, q_walls, q_wallMany)
set_option maxHeartbeats 4000000 in
set_option maxRecDepth 100000 in
theorem s_X8_two_J31 {fu : Nat} {q_textSize : Int32} {q_cursor : Int32} {q_start : Int32} {q_token : Int32} {q_number : Int32} {q_word : Int64} {q_fault : Int32} {q_line : Int32} {q_foundPains : Int32} {q_foundLine : Int32} {q_deadMany : Int32} {q_deadSize : Int32} {q_deadLeast : Int32} {q_deadMost : Int32} {q_st : Nat → Int32} {q_before : Nat → Int32} {q_kept : Nat → Int32} {q_isKept : Nat → Int32} {q_refused : Nat → Int32} {q_text : Nat → Int32} {q_ones : Nat → Int32} {q_said : Nat → Int32} {q_readTable : Nat → Int32} {q_least : Nat → Int32} {q_made : Nat → Int32} {q_enough : Nat → Int32} {q_isWanted : Nat → Int32} {q_column : Nat → Int32} {q_foundColumn : Nat → Int32} {q_walls : Nat → Int64} {q_wallMany : Nat → Int32} {q_chosen : Nat → Int32} {r : Int32 × Int32 × (Nat → Int32) × (Nat → Int32) × (Nat → Int64) × (Nat → Int32)} (h : X8_two_J31 fu q_line q_st q_refused q_ones q_column q_walls q_wallMany = some r) : mm_Wp mX8_two (mm_R (P_X8_two q_textSize q_cursor q_start q_token q_number q_word q_fault q_foundPains q_foundLine q_deadMany q_deadSize q_deadLeast q_deadMost q_st q_before q_kept q_isKept q_text q_ones q_said q_readTable q_least q_made q_enough q_isWanted q_foundColumn q_chosen r)) 0 0 31 [(0, .ref 0)] [] (W_X8 q_textSize q_cursor q_start q_token q_number q_word q_fault q_line q_foundPains q_foundLine q_deadMany q_deadSize q_deadLeast q_deadMost q_st q_before q_kept q_isKept q_refused q_text q_ones q_said q_readTable q_least q_made q_enough q_isWanted q_column q_foundColumn q_walls q_wallMany q_chosen) := by
  rw [X8_two_J31] at h
  refine mm_aload_n 0 dX8_two_31 rfl rfl (pc' := 32) rfl ?_
  refine mm_bipush dX8_two_32 kb_m2 (pc' := 34) rfl ?_
  obtain ⟨t34, h34, h⟩ := mm_bd h
  refine mm_call0 (As := [.int (-2 : Int32)]) (rest := []) cV_X8_92 (ok_X8_told h34) ⟨rfl, rfl, Nat.le_of_ble_eq_true rfl, Nat.le_of_ble_eq_true rfl⟩ dX8_two_34 rfl rfl rfl rfl (by rintro _ _ ⟨-, rfl⟩; rfl) (Nat.le_of_ble_eq_true rfl) ⟨Nat.le_of_ble_eq_true rfl, Nat.le_of_ble_eq_true rfl⟩ (pc' := 37) rfl ?_
  rintro rv w ⟨rfl, rfl⟩
  show mm_Wp _ _ _ _ 37 [(0, .ref 0)] [.int t34.1] (W_X8 q_textSize q_cursor q_start q_token q_number q_word q_fault q_line q_foundPains q_foundLine q_deadMany q_deadSize q_deadLeast q_deadMost q_st q_before q_kept q_isKept t34.2 q_text q_ones q_said q_readTable q_least q_made q_enough q_isWanted q_column q_foundColumn q_walls q_wallMany q_chosen)
  clear h34
  have h9 := Option.some.inj h
  subst h9
  exact mm_iret rfl dX8_two_37 ⟨rfl, rfl⟩
def X8_two_J128 (fu : Nat) (rec59 : Int32 → Int32 → Option (Int32 × Int32 × (Nat → Int32) × (Nat → Int32) × (Nat → Int64) × (Nat → Int32))) (rec73 : Int32 → Int32 → Option (Int32 × Int32 × (Nat → Int32) × (Nat → Int32) × (Nat → Int64) × (Nat → Int32))) (q_line : Int32) (q_st : Nat → Int32) (q_refused : Nat → Int32) (q_ones : Nat → Int32) (q_column : Nat → Int32) (q_walls : Nat → Int64) (q_wallMany : Nat → Int32) (v6 : Int32) (v7 : Int32) (s0 : Int32) : Option (Int32 × Int32 × (Nat → Int32) × (Nat → Int32) × (Nat → Int64) × (Nat → Int32)) := rec73 s0 (v7 + (1 : Int32))
set_option maxHeartbeats 4000000 in
set_option maxRecDepth 100000 in
theorem s_X8_two_J128 {fu : Nat} {q_textSize : Int32} {q_cursor : Int32} {q_start : Int32} {q_token : Int32} {q_number : Int32} {q_word : Int64} {q_fault : Int32} {q_line : Int32} {q_foundPains : Int32} {q_foundLine : Int32} {q_deadMany : Int32} {q_deadSize : Int32} {q_deadLeast : Int32} {q_deadMost : Int32} {q_st : Nat → Int32} {q_before : Nat → Int32} {q_kept : Nat → Int32} {q_isKept : Nat → Int32} {q_refused : Nat → Int32} {q_text : Nat → Int32} {q_ones : Nat → Int32} {q_said : Nat → Int32} {q_readTable : Nat → Int32} {q_least : Nat → Int32} {q_made : Nat → Int32} {q_enough : Nat → Int32} {q_isWanted : Nat → Int32} {q_column : Nat → Int32} {q_foundColumn : Nat → Int32} {q_walls : Nat → Int64} {q_wallMany : Nat → Int32} {q_chosen : Nat → Int32} {r : Int32 × Int32 × (Nat → Int32) × (Nat → Int32) × (Nat → Int64) × (Nat → Int32)} {rec59 : Int32 → Int32 → Option (Int32 × Int32 × (Nat → Int32) × (Nat → Int32) × (Nat → Int64) × (Nat → Int32))} {rec73 : Int32 → Int32 → Option (Int32 × Int32 × (Nat → Int32) × (Nat → Int32) × (Nat → Int64) × (Nat → Int32))} {v6 : Int32} {v7 : Int32} {s0 : Int32} (hr59 : ∀ (y5 : Int32) (y6 : Int32), rec59 y5 y6 = some r → mm_Wp mX8_two (mm_R (P_X8_two q_textSize q_cursor q_start q_token q_number q_word q_fault q_foundPains q_foundLine q_deadMany q_deadSize q_deadLeast q_deadMost q_st q_before q_kept q_isKept q_text q_ones q_said q_readTable q_least q_made q_enough q_isWanted q_foundColumn q_chosen r)) 0 0 59 [(0, .ref 0), (5, .int y5), (6, .int y6)] [] (W_X8 q_textSize q_cursor q_start q_token q_number q_word q_fault q_line q_foundPains q_foundLine q_deadMany q_deadSize q_deadLeast q_deadMost q_st q_before q_kept q_isKept q_refused q_text q_ones q_said q_readTable q_least q_made q_enough q_isWanted q_column q_foundColumn q_walls q_wallMany q_chosen)) (hr73 : ∀ (y5 : Int32) (y7 : Int32), rec73 y5 y7 = some r → mm_Wp mX8_two (mm_R (P_X8_two q_textSize q_cursor q_start q_token q_number q_word q_fault q_foundPains q_foundLine q_deadMany q_deadSize q_deadLeast q_deadMost q_st q_before q_kept q_isKept q_text q_ones q_said q_readTable q_least q_made q_enough q_isWanted q_foundColumn q_chosen r)) 0 0 73 [(0, .ref 0), (5, .int y5), (6, .int v6), (7, .int y7)] [] (W_X8 q_textSize q_cursor q_start q_token q_number q_word q_fault q_line q_foundPains q_foundLine q_deadMany q_deadSize q_deadLeast q_deadMost q_st q_before q_kept q_isKept q_refused q_text q_ones q_said q_readTable q_least q_made q_enough q_isWanted q_column q_foundColumn q_walls q_wallMany q_chosen)) (h : X8_two_J128 fu rec59 rec73 q_line q_st q_refused q_ones q_column q_walls q_wallMany v6 v7 s0 = some r) : mm_Wp mX8_two (mm_R (P_X8_two q_textSize q_cursor q_start q_token q_number q_word q_fault q_foundPains q_foundLine q_deadMany q_deadSize q_deadLeast q_deadMost q_st q_before q_kept q_isKept q_text q_ones q_said q_readTable q_least q_made q_enough q_isWanted q_foundColumn q_chosen r)) 0 0 128 [(0, .ref 0), (6, .int v6), (7, .int v7)] [.int s0] (W_X8 q_textSize q_cursor q_start q_token q_number q_word q_fault q_line q_foundPains q_foundLine q_deadMany q_deadSize q_deadLeast q_deadMost q_st q_before q_kept q_isKept q_refused q_text q_ones q_said q_readTable q_least q_made q_enough q_isWanted q_column q_foundColumn q_walls q_wallMany q_chosen) := by
  rw [X8_two_J128] at h
  refine mm_istore dX8_two_128 (by decide) (l' := [(5, .int s0), (0, .ref 0), (6, .int v6), (7, .int v7)]) rfl (pc' := 130) rfl ?_
  refine mm_iinc 3 dX8_two_130 rfl ki_1 (by decide) (l' := [(7, .int (v7 + (1 : Int32))), (5, .int s0), (0, .ref 0), (6, .int v6)]) rfl (pc' := 133) rfl ?_
  refine mm_goto (tgt := 73) dX8_two_133 (by decide) ?_
  exact mm_sub [2, 1, 3, 0] rfl (hr73 _ _ h)
def X8_two_J121 (fu : Nat) (rec59 : Int32 → Int32 → Option (Int32 × Int32 × (Nat → Int32) × (Nat → Int32) × (Nat → Int64) × (Nat → Int32))) (rec73 : Int32 → Int32 → Option (Int32 × Int32 × (Nat → Int32) × (Nat → Int32) × (Nat → Int64) × (Nat → Int32))) (q_line : Int32) (q_st : Nat → Int32) (q_refused : Nat → Int32) (q_ones : Nat → Int32) (q_column : Nat → Int32) (q_walls : Nat → Int64) (q_wallMany : Nat → Int32) (v6 : Int32) (v7 : Int32) (v8 : Int32)  : Option (Int32 × Int32 × (Nat → Int32) × (Nat → Int32) × (Nat → Int64) × (Nat → Int32)) := X8_two_J128 fu rec59 rec73 q_line q_st q_refused q_ones q_column q_walls q_wallMany v6 v7 v8
set_option maxHeartbeats 4000000 in
set_option maxRecDepth 100000 in
theorem s_X8_two_J121 {fu : Nat} {q_textSize : Int32} {q_cursor : Int32} {q_start : Int32} {q_token : Int32} {q_number : Int32} {q_word : Int64} {q_fault : Int32} {q_line : Int32} {q_foundPains : Int32} {q_foundLine : Int32} {q_deadMany : Int32} {q_deadSize : Int32} {q_deadLeast : Int32} {q_deadMost : Int32} {q_st : Nat → Int32} {q_before : Nat → Int32} {q_kept : Nat → Int32} {q_isKept : Nat → Int32} {q_refused : Nat → Int32} {q_text : Nat → Int32} {q_ones : Nat → Int32} {q_said : Nat → Int32} {q_readTable : Nat → Int32} {q_least : Nat → Int32} {q_made : Nat → Int32} {q_enough : Nat → Int32} {q_isWanted : Nat → Int32} {q_column : Nat → Int32} {q_foundColumn : Nat → Int32} {q_walls : Nat → Int64} {q_wallMany : Nat → Int32} {q_chosen : Nat → Int32} {r : Int32 × Int32 × (Nat → Int32) × (Nat → Int32) × (Nat → Int64) × (Nat → Int32)} {rec59 : Int32 → Int32 → Option (Int32 × Int32 × (Nat → Int32) × (Nat → Int32) × (Nat → Int64) × (Nat → Int32))} {rec73 : Int32 → Int32 → Option (Int32 × Int32 × (Nat → Int32) × (Nat → Int32) × (Nat → Int64) × (Nat → Int32))} {v6 : Int32} {v7 : Int32} {v8 : Int32} (hr59 : ∀ (y5 : Int32) (y6 : Int32), rec59 y5 y6 = some r → mm_Wp mX8_two (mm_R (P_X8_two q_textSize q_cursor q_start q_token q_number q_word q_fault q_foundPains q_foundLine q_deadMany q_deadSize q_deadLeast q_deadMost q_st q_before q_kept q_isKept q_text q_ones q_said q_readTable q_least q_made q_enough q_isWanted q_foundColumn q_chosen r)) 0 0 59 [(0, .ref 0), (5, .int y5), (6, .int y6)] [] (W_X8 q_textSize q_cursor q_start q_token q_number q_word q_fault q_line q_foundPains q_foundLine q_deadMany q_deadSize q_deadLeast q_deadMost q_st q_before q_kept q_isKept q_refused q_text q_ones q_said q_readTable q_least q_made q_enough q_isWanted q_column q_foundColumn q_walls q_wallMany q_chosen)) (hr73 : ∀ (y5 : Int32) (y7 : Int32), rec73 y5 y7 = some r → mm_Wp mX8_two (mm_R (P_X8_two q_textSize q_cursor q_start q_token q_number q_word q_fault q_foundPains q_foundLine q_deadMany q_deadSize q_deadLeast q_deadMost q_st q_before q_kept q_isKept q_text q_ones q_said q_readTable q_least q_made q_enough q_isWanted q_foundColumn q_chosen r)) 0 0 73 [(0, .ref 0), (5, .int y5), (6, .int v6), (7, .int y7)] [] (W_X8 q_textSize q_cursor q_start q_token q_number q_word q_fault q_line q_foundPains q_foundLine q_deadMany q_deadSize q_deadLeast q_deadMost q_st q_before q_kept q_isKept q_refused q_text q_ones q_said q_readTable q_least q_made q_enough q_isWanted q_column q_foundColumn q_walls q_wallMany q_chosen)) (h : X8_two_J121 fu rec59 rec73 q_line q_st q_refused q_ones q_column q_walls q_wallMany v6 v7 v8 = some r) : mm_Wp mX8_two (mm_R (P_X8_two q_textSize q_cursor q_start q_token q_number q_word q_fault q_foundPains q_foundLine q_deadMany q_deadSize q_deadLeast q_deadMost q_st q_before q_kept q_isKept q_text q_ones q_said q_readTable q_least q_made q_enough q_isWanted q_foundColumn q_chosen r)) 0 0 121 [(0, .ref 0), (6, .int v6), (7, .int v7), (8, .int v8)] [] (W_X8 q_textSize q_cursor q_start q_token q_number q_word q_fault q_line q_foundPains q_foundLine q_deadMany q_deadSize q_deadLeast q_deadMost q_st q_before q_kept q_isKept q_refused q_text q_ones q_said q_readTable q_least q_made q_enough q_isWanted q_column q_foundColumn q_walls q_wallMany q_chosen) := by
  rw [X8_two_J121] at h
  refine mm_iload 3 dX8_two_121 rfl (pc' := 123) rfl ?_
  refine mm_goto (tgt := 128) dX8_two_123 (by decide) ?_
  exact mm_sub [0, 1, 2] rfl (s_X8_two_J128 (hr59 := hr59) (hr73 := hr73) h)
def X8_two_L73 (fu : Nat) (rec59 : Int32 → Int32 → Option (Int32 × Int32 × (Nat → Int32) × (Nat → Int32) × (Nat → Int64) × (Nat → Int32))) (q_line : Int32) (q_st : Nat → Int32) (q_refused : Nat → Int32) (q_ones : Nat → Int32) (q_column : Nat → Int32) (q_walls : Nat → Int64) (q_wallMany : Nat → Int32) (v6 : Int32) : Nat → Int32 → Int32 → Option (Int32 × Int32 × (Nat → Int32) × (Nat → Int32) × (Nat → Int64) × (Nat → Int32))
  | 0, _, _ => none
  | n + 1, v5, v7 => if (q_wallMany 1) ≤ v7 then (rec59 v5 (v6 + (1 : Int32))) else (mm_rd q_walls 128 v6 fun x91 => mm_rd q_walls 128 ((64 : Int32) + v7) fun x101 => (f_X8_onesOf fu q_ones (x91 ^^^ x101)).bind fun t103 => if v5 = (-1 : Int32) then (X8_two_J121 fu rec59 (X8_two_L73 fu rec59 q_line q_st q_refused q_ones q_column q_walls q_wallMany v6 n) q_line q_st q_refused q_ones q_column q_walls q_wallMany v6 v7 t103) else (if v5 ≤ t103 then (X8_two_J128 fu rec59 (X8_two_L73 fu rec59 q_line q_st q_refused q_ones q_column q_walls q_wallMany v6 n) q_line q_st q_refused q_ones q_column q_walls q_wallMany v6 v7 v5) else (X8_two_J121 fu rec59 (X8_two_L73 fu rec59 q_line q_st q_refused q_ones q_column q_walls q_wallMany v6 n) q_line q_st q_refused q_ones q_column q_walls q_wallMany v6 v7 t103)))
set_option maxHeartbeats 4000000 in
set_option maxRecDepth 100000 in
theorem s_X8_two_L73 {fu : Nat} {q_textSize : Int32} {q_cursor : Int32} {q_start : Int32} {q_token : Int32} {q_number : Int32} {q_word : Int64} {q_fault : Int32} {q_line : Int32} {q_foundPains : Int32} {q_foundLine : Int32} {q_deadMany : Int32} {q_deadSize : Int32} {q_deadLeast : Int32} {q_deadMost : Int32} {q_st : Nat → Int32} {q_before : Nat → Int32} {q_kept : Nat → Int32} {q_isKept : Nat → Int32} {q_refused : Nat → Int32} {q_text : Nat → Int32} {q_ones : Nat → Int32} {q_said : Nat → Int32} {q_readTable : Nat → Int32} {q_least : Nat → Int32} {q_made : Nat → Int32} {q_enough : Nat → Int32} {q_isWanted : Nat → Int32} {q_column : Nat → Int32} {q_foundColumn : Nat → Int32} {q_walls : Nat → Int64} {q_wallMany : Nat → Int32} {q_chosen : Nat → Int32} {r : Int32 × Int32 × (Nat → Int32) × (Nat → Int32) × (Nat → Int64) × (Nat → Int32)} {rec59 : Int32 → Int32 → Option (Int32 × Int32 × (Nat → Int32) × (Nat → Int32) × (Nat → Int64) × (Nat → Int32))} {v6 : Int32} (hr59 : ∀ (y5 : Int32) (y6 : Int32), rec59 y5 y6 = some r → mm_Wp mX8_two (mm_R (P_X8_two q_textSize q_cursor q_start q_token q_number q_word q_fault q_foundPains q_foundLine q_deadMany q_deadSize q_deadLeast q_deadMost q_st q_before q_kept q_isKept q_text q_ones q_said q_readTable q_least q_made q_enough q_isWanted q_foundColumn q_chosen r)) 0 0 59 [(0, .ref 0), (5, .int y5), (6, .int y6)] [] (W_X8 q_textSize q_cursor q_start q_token q_number q_word q_fault q_line q_foundPains q_foundLine q_deadMany q_deadSize q_deadLeast q_deadMost q_st q_before q_kept q_isKept q_refused q_text q_ones q_said q_readTable q_least q_made q_enough q_isWanted q_column q_foundColumn q_walls q_wallMany q_chosen)) : ∀ (n : Nat) (v5 : Int32) (v7 : Int32), X8_two_L73 fu rec59 q_line q_st q_refused q_ones q_column q_walls q_wallMany v6 n v5 v7 = some r → mm_Wp mX8_two (mm_R (P_X8_two q_textSize q_cursor q_start q_token q_number q_word q_fault q_foundPains q_foundLine q_deadMany q_deadSize q_deadLeast q_deadMost q_st q_before q_kept q_isKept q_text q_ones q_said q_readTable q_least q_made q_enough q_isWanted q_foundColumn q_chosen r)) 0 0 73 [(0, .ref 0), (5, .int v5), (6, .int v6), (7, .int v7)] [] (W_X8 q_textSize q_cursor q_start q_token q_number q_word q_fault q_line q_foundPains q_foundLine q_deadMany q_deadSize q_deadLeast q_deadMost q_st q_before q_kept q_isKept q_refused q_text q_ones q_said q_readTable q_least q_made q_enough q_isWanted q_column q_foundColumn q_walls q_wallMany q_chosen) := by
  intro n
  induction n with
  | zero =>
    intro v5 v7 h
    rw [X8_two_L73] at h
    cases h
  | succ n hr73 =>
    intro v5 v7 h
    rw [X8_two_L73] at h
    refine mm_iload 3 dX8_two_73 rfl (pc' := 75) rfl ?_
    refine mm_aload_n 0 dX8_two_75 rfl rfl (pc' := 76) rfl ?_
    refine mm_getf fG_X8_60 dX8_two_76 rfl rfl (pc' := 79) rfl ?_
    refine mm_iconst dX8_two_79 ki_1 (pc' := 80) rfl ?_
    refine mm_iald dX8_two_80 rfl ki_1_2 (congrArg _ kt_1) (pc' := 81) rfl ?_
    refine mm_icmp_ge (tgt := 136) dX8_two_81 (by decide) (pc' := 84) rfl (fun c => ?_) (fun c => ?_)
    · replace h := mm_it h c
      clear c
      refine mm_iinc 2 dX8_two_136 rfl ki_1 (by decide) (l' := [(6, .int (v6 + (1 : Int32))), (0, .ref 0), (5, .int v5), (7, .int v7)]) rfl (pc' := 139) rfl ?_
      refine mm_goto (tgt := 59) dX8_two_139 (by decide) ?_
      exact mm_sub [1, 2, 0] rfl (hr59 _ _ h)
    · replace h := mm_if h c
      clear c
      refine mm_aload_n 0 dX8_two_84 rfl rfl (pc' := 85) rfl ?_
      refine mm_aload_n 0 dX8_two_85 rfl rfl (pc' := 86) rfl ?_
      refine mm_getf fG_X8_56 dX8_two_86 rfl rfl (pc' := 89) rfl ?_
      refine mm_iload 2 dX8_two_89 rfl (pc' := 91) rfl ?_
      obtain ⟨x91, c91, e91, h⟩ := mm_rd_of h
      refine mm_lald dX8_two_91 rfl c91 e91 (pc' := 92) rfl ?_
      clear c91 e91
      refine mm_aload_n 0 dX8_two_92 rfl rfl (pc' := 93) rfl ?_
      refine mm_getf fG_X8_56 dX8_two_93 rfl rfl (pc' := 96) rfl ?_
      refine mm_bipush dX8_two_96 kb_64 (pc' := 98) rfl ?_
      refine mm_iload 3 dX8_two_98 rfl (pc' := 100) rfl ?_
      refine mm_iadd dX8_two_100 (pc' := 101) rfl ?_
      obtain ⟨x101, c101, e101, h⟩ := mm_rd_of h
      refine mm_lald dX8_two_101 rfl c101 e101 (pc' := 102) rfl ?_
      clear c101 e101
      refine mm_lxor dX8_two_102 (pc' := 103) rfl ?_
      obtain ⟨t103, h103, h⟩ := mm_bd h
      refine mm_call0 (As := [.long (x91 ^^^ x101)]) (rest := []) cV_X8_252 (ok_X8_onesOf h103) ⟨rfl, rfl, Nat.le_of_ble_eq_true rfl, Nat.le_of_ble_eq_true rfl⟩ dX8_two_103 rfl rfl rfl rfl (by rintro _ _ ⟨-, rfl⟩; rfl) (Nat.le_of_ble_eq_true rfl) ⟨Nat.le_of_ble_eq_true rfl, Nat.le_of_ble_eq_true rfl⟩ (pc' := 106) rfl ?_
      rintro rv w ⟨rfl, rfl⟩
      show mm_Wp _ _ _ _ 106 [(0, .ref 0), (5, .int v5), (6, .int v6), (7, .int v7)] [.int t103] (W_X8 q_textSize q_cursor q_start q_token q_number q_word q_fault q_line q_foundPains q_foundLine q_deadMany q_deadSize q_deadLeast q_deadMost q_st q_before q_kept q_isKept q_refused q_text q_ones q_said q_readTable q_least q_made q_enough q_isWanted q_column q_foundColumn q_walls q_wallMany q_chosen)
      clear h103
      refine mm_istore dX8_two_106 (by decide) (l' := [(8, .int t103), (0, .ref 0), (5, .int v5), (6, .int v6), (7, .int v7)]) rfl (pc' := 108) rfl ?_
      refine mm_iload 2 dX8_two_108 rfl (pc' := 110) rfl ?_
      refine mm_iconst dX8_two_110 ki_m1 (pc' := 111) rfl ?_
      refine mm_icmp_eq (tgt := 121) dX8_two_111 (by decide) (pc' := 114) rfl (fun c => ?_) (fun c => ?_)
      · replace h := mm_it h c
        clear c
        exact mm_sub [1, 3, 4, 0] rfl (s_X8_two_J121 (hr59 := hr59) (hr73 := hr73) h)
      · replace h := mm_if h c
        clear c
        refine mm_iload 0 dX8_two_114 rfl (pc' := 116) rfl ?_
        refine mm_iload 2 dX8_two_116 rfl (pc' := 118) rfl ?_
        refine mm_icmp_ge (tgt := 126) dX8_two_118 (by decide) (pc' := 121) rfl (fun c => ?_) (fun c => ?_)
        · replace h := mm_it h c
          clear c
          refine mm_iload 2 dX8_two_126 rfl (pc' := 128) rfl ?_
          exact mm_sub [1, 3, 4] rfl (s_X8_two_J128 (hr59 := hr59) (hr73 := hr73) h)
        · replace h := mm_if h c
          clear c
          exact mm_sub [1, 3, 4, 0] rfl (s_X8_two_J121 (hr59 := hr59) (hr73 := hr73) h)
def X8_two_L59 (fu : Nat)  (q_line : Int32) (q_st : Nat → Int32) (q_refused : Nat → Int32) (q_ones : Nat → Int32) (q_column : Nat → Int32) (q_walls : Nat → Int64) (q_wallMany : Nat → Int32)  : Nat → Int32 → Int32 → Option (Int32 × Int32 × (Nat → Int32) × (Nat → Int32) × (Nat → Int64) × (Nat → Int32))
  | 0, _, _ => none
  | n + 1, v5, v6 => if (q_wallMany 0) ≤ v6 then (some (v5, q_line, q_refused, q_column, q_walls, q_wallMany)) else (X8_two_L73 fu (X8_two_L59 fu q_line q_st q_refused q_ones q_column q_walls q_wallMany n) q_line q_st q_refused q_ones q_column q_walls q_wallMany v6 fu v5 (0 : Int32))
set_option maxHeartbeats 4000000 in
set_option maxRecDepth 100000 in
theorem s_X8_two_L59 {fu : Nat} {q_textSize : Int32} {q_cursor : Int32} {q_start : Int32} {q_token : Int32} {q_number : Int32} {q_word : Int64} {q_fault : Int32} {q_line : Int32} {q_foundPains : Int32} {q_foundLine : Int32} {q_deadMany : Int32} {q_deadSize : Int32} {q_deadLeast : Int32} {q_deadMost : Int32} {q_st : Nat → Int32} {q_before : Nat → Int32} {q_kept : Nat → Int32} {q_isKept : Nat → Int32} {q_refused : Nat → Int32} {q_text : Nat → Int32} {q_ones : Nat → Int32} {q_said : Nat → Int32} {q_readTable : Nat → Int32} {q_least : Nat → Int32} {q_made : Nat → Int32} {q_enough : Nat → Int32} {q_isWanted : Nat → Int32} {q_column : Nat → Int32} {q_foundColumn : Nat → Int32} {q_walls : Nat → Int64} {q_wallMany : Nat → Int32} {q_chosen : Nat → Int32} {r : Int32 × Int32 × (Nat → Int32) × (Nat → Int32) × (Nat → Int64) × (Nat → Int32)} : ∀ (n : Nat) (v5 : Int32) (v6 : Int32), X8_two_L59 fu q_line q_st q_refused q_ones q_column q_walls q_wallMany n v5 v6 = some r → mm_Wp mX8_two (mm_R (P_X8_two q_textSize q_cursor q_start q_token q_number q_word q_fault q_foundPains q_foundLine q_deadMany q_deadSize q_deadLeast q_deadMost q_st q_before q_kept q_isKept q_text q_ones q_said q_readTable q_least q_made q_enough q_isWanted q_foundColumn q_chosen r)) 0 0 59 [(0, .ref 0), (5, .int v5), (6, .int v6)] [] (W_X8 q_textSize q_cursor q_start q_token q_number q_word q_fault q_line q_foundPains q_foundLine q_deadMany q_deadSize q_deadLeast q_deadMost q_st q_before q_kept q_isKept q_refused q_text q_ones q_said q_readTable q_least q_made q_enough q_isWanted q_column q_foundColumn q_walls q_wallMany q_chosen) := by
  intro n
  induction n with
  | zero =>
    intro v5 v6 h
    rw [X8_two_L59] at h
    cases h
  | succ n hr59 =>
    intro v5 v6 h
    rw [X8_two_L59] at h
    refine mm_iload 2 dX8_two_59 rfl (pc' := 61) rfl ?_
    refine mm_aload_n 0 dX8_two_61 rfl rfl (pc' := 62) rfl ?_
    refine mm_getf fG_X8_60 dX8_two_62 rfl rfl (pc' := 65) rfl ?_
    refine mm_iconst dX8_two_65 ki_0 (pc' := 66) rfl ?_
    refine mm_iald dX8_two_66 rfl ki_0_2 (congrArg _ kt_0) (pc' := 67) rfl ?_
    refine mm_icmp_ge (tgt := 142) dX8_two_67 (by decide) (pc' := 70) rfl (fun c => ?_) (fun c => ?_)
    · replace h := mm_it h c
      clear c
      refine mm_iload 1 dX8_two_142 rfl (pc' := 144) rfl ?_
      have h9 := Option.some.inj h
      subst h9
      exact mm_iret rfl dX8_two_144 ⟨rfl, rfl⟩
    · replace h := mm_if h c
      clear c
      refine mm_iconst dX8_two_70 ki_0 (pc' := 71) rfl ?_
      refine mm_istore dX8_two_71 (by decide) (l' := [(7, .int (0 : Int32)), (0, .ref 0), (5, .int v5), (6, .int v6)]) rfl (pc' := 73) rfl ?_
      exact mm_sub [1, 2, 3, 0] rfl (s_X8_two_L73 (hr59 := hr59) _ _ _ h)
def f_X8_two (fu : Nat) (q_line : Int32) (q_st : Nat → Int32) (q_refused : Nat → Int32) (q_ones : Nat → Int32) (q_column : Nat → Int32) (q_walls : Nat → Int64) (q_wallMany : Nat → Int32) (v1 : Int32) (v2 : Int32) (v3 : Int32) (v4 : Int32) : Option (Int32 × Int32 × (Nat → Int32) × (Nat → Int32) × (Nat → Int64) × (Nat → Int32)) := (f_X8_isWord fu q_st v1).bind fun t2 => if t2 = 0 then (X8_two_J31 fu q_line q_st q_refused q_ones q_column q_walls q_wallMany) else ((f_X8_isHour fu v2).bind fun t9 => if t9 = 0 then (X8_two_J31 fu q_line q_st q_refused q_ones q_column q_walls q_wallMany) else ((f_X8_isWord fu q_st v3).bind fun t17 => if t17 = 0 then (X8_two_J31 fu q_line q_st q_refused q_ones q_column q_walls q_wallMany) else ((f_X8_isHour fu v4).bind fun t25 => if t25 = 0 then (X8_two_J31 fu q_line q_st q_refused q_ones q_column q_walls q_wallMany) else ((f_X8_findWalls fu q_line q_st q_column q_walls q_wallMany (0 : Int32) v1 v2).bind fun t42 => (f_X8_findWalls fu t42.1 q_st t42.2.1 t42.2.2.1 t42.2.2.2 (1 : Int32) v3 v4).bind fun t50 => X8_two_L59 fu t50.1 q_st q_refused q_ones t50.2.1 t50.2.2.1 t50.2.2.2 fu (-1 : Int32) (0 : Int32)))))
set_option maxHeartbeats 4000000 in
set_option maxRecDepth 100000 in
theorem ok_X8_two {fu : Nat} {q_textSize : Int32} {q_cursor : Int32} {q_start : Int32} {q_token : Int32} {q_number : Int32} {q_word : Int64} {q_fault : Int32} {q_line : Int32} {q_foundPains : Int32} {q_foundLine : Int32} {q_deadMany : Int32} {q_deadSize : Int32} {q_deadLeast : Int32} {q_deadMost : Int32} {q_st : Nat → Int32} {q_before : Nat → Int32} {q_kept : Nat → Int32} {q_isKept : Nat → Int32} {q_refused : Nat → Int32} {q_text : Nat → Int32} {q_ones : Nat → Int32} {q_said : Nat → Int32} {q_readTable : Nat → Int32} {q_least : Nat → Int32} {q_made : Nat → Int32} {q_enough : Nat → Int32} {q_isWanted : Nat → Int32} {q_column : Nat → Int32} {q_foundColumn : Nat → Int32} {q_walls : Nat → Int64} {q_wallMany : Nat → Int32} {q_chosen : Nat → Int32} {r : Int32 × Int32 × (Nat → Int32) × (Nat → Int32) × (Nat → Int64) × (Nat → Int32)} {v1 : Int32} {v2 : Int32} {v3 : Int32} {v4 : Int32} (h : f_X8_two fu q_line q_st q_refused q_ones q_column q_walls q_wallMany v1 v2 v3 v4 = some r) : mm_Ok mX8_two [.ref 0, .int v1, .int v2, .int v3, .int v4] (W_X8 q_textSize q_cursor q_start q_token q_number q_word q_fault q_line q_foundPains q_foundLine q_deadMany q_deadSize q_deadLeast q_deadMost q_st q_before q_kept q_isKept q_refused q_text q_ones q_said q_readTable q_least q_made q_enough q_isWanted q_column q_foundColumn q_walls q_wallMany q_chosen) (P_X8_two q_textSize q_cursor q_start q_token q_number q_word q_fault q_foundPains q_foundLine q_deadMany q_deadSize q_deadLeast q_deadMost q_st q_before q_kept q_isKept q_text q_ones q_said q_readTable q_least q_made q_enough q_isWanted q_foundColumn q_chosen r) := by
  rw [f_X8_two] at h
  refine mm_Ok.of pn_X8 (l := [(0, .ref 0), (1, .int v1), (2, .int v2), (3, .int v3), (4, .int v4)]) rfl (Nat.le_of_ble_eq_true rfl) ?_
  refine mm_aload_n 0 dX8_two_0 rfl rfl (pc' := 1) rfl ?_
  refine mm_iload_n 1 dX8_two_1 rfl rfl (pc' := 2) rfl ?_
  obtain ⟨t2, h2, h⟩ := mm_bd h
  refine mm_call0 (As := [.int v1]) (rest := []) cV_X8_234 (ok_X8_isWord h2) ⟨rfl, rfl, Nat.le_of_ble_eq_true rfl, Nat.le_of_ble_eq_true rfl⟩ dX8_two_2 rfl rfl rfl rfl (by rintro _ _ ⟨-, rfl⟩; rfl) (Nat.le_of_ble_eq_true rfl) ⟨Nat.le_of_ble_eq_true rfl, Nat.le_of_ble_eq_true rfl⟩ (pc' := 5) rfl ?_
  rintro rv w ⟨rfl, rfl⟩
  show mm_Wp _ _ _ _ 5 [(0, .ref 0), (1, .int v1), (2, .int v2), (3, .int v3), (4, .int v4)] [.int t2] (W_X8 q_textSize q_cursor q_start q_token q_number q_word q_fault q_line q_foundPains q_foundLine q_deadMany q_deadSize q_deadLeast q_deadMost q_st q_before q_kept q_isKept q_refused q_text q_ones q_said q_readTable q_least q_made q_enough q_isWanted q_column q_foundColumn q_walls q_wallMany q_chosen)
  clear h2
  refine mm_if_eq (tgt := 31) dX8_two_5 (by decide) (pc' := 8) rfl (fun c => ?_) (fun c => ?_)
  · replace h := mm_it h c
    clear c
    exact mm_sub [0] rfl (s_X8_two_J31  h)
  · replace h := mm_if h c
    clear c
    refine mm_iload_n 2 dX8_two_8 rfl rfl (pc' := 9) rfl ?_
    obtain ⟨t9, h9, h⟩ := mm_bd h
    refine mm_callS (As := [.int v2]) (rest := []) (av := [.int v2]) (wc := []) (is := []) cS_X8_85 (ok_X8_isHour h9) ⟨rfl, rfl, Nat.le_of_ble_eq_true rfl, Nat.le_of_ble_eq_true rfl⟩ dX8_two_9 rfl rfl rfl ⟨rfl, by decide, by decide⟩ (by rintro _ _ ⟨-, rfl⟩; rfl) (Nat.le_of_ble_eq_true rfl) ⟨Nat.le_of_ble_eq_true rfl, Nat.le_of_ble_eq_true rfl⟩ (pc' := 12) rfl ?_
    rintro rv w ⟨rfl, rfl⟩
    show mm_Wp _ _ _ _ 12 [(0, .ref 0), (1, .int v1), (2, .int v2), (3, .int v3), (4, .int v4)] [.int t9] (W_X8 q_textSize q_cursor q_start q_token q_number q_word q_fault q_line q_foundPains q_foundLine q_deadMany q_deadSize q_deadLeast q_deadMost q_st q_before q_kept q_isKept q_refused q_text q_ones q_said q_readTable q_least q_made q_enough q_isWanted q_column q_foundColumn q_walls q_wallMany q_chosen)
    clear h9
    refine mm_if_eq (tgt := 31) dX8_two_12 (by decide) (pc' := 15) rfl (fun c => ?_) (fun c => ?_)
    · replace h := mm_it h c
      clear c
      exact mm_sub [0] rfl (s_X8_two_J31  h)
    · replace h := mm_if h c
      clear c
      refine mm_aload_n 0 dX8_two_15 rfl rfl (pc' := 16) rfl ?_
      refine mm_iload_n 3 dX8_two_16 rfl rfl (pc' := 17) rfl ?_
      obtain ⟨t17, h17, h⟩ := mm_bd h
      refine mm_call0 (As := [.int v3]) (rest := []) cV_X8_234 (ok_X8_isWord h17) ⟨rfl, rfl, Nat.le_of_ble_eq_true rfl, Nat.le_of_ble_eq_true rfl⟩ dX8_two_17 rfl rfl rfl rfl (by rintro _ _ ⟨-, rfl⟩; rfl) (Nat.le_of_ble_eq_true rfl) ⟨Nat.le_of_ble_eq_true rfl, Nat.le_of_ble_eq_true rfl⟩ (pc' := 20) rfl ?_
      rintro rv w ⟨rfl, rfl⟩
      show mm_Wp _ _ _ _ 20 [(0, .ref 0), (1, .int v1), (2, .int v2), (3, .int v3), (4, .int v4)] [.int t17] (W_X8 q_textSize q_cursor q_start q_token q_number q_word q_fault q_line q_foundPains q_foundLine q_deadMany q_deadSize q_deadLeast q_deadMost q_st q_before q_kept q_isKept q_refused q_text q_ones q_said q_readTable q_least q_made q_enough q_isWanted q_column q_foundColumn q_walls q_wallMany q_chosen)
      clear h17
      refine mm_if_eq (tgt := 31) dX8_two_20 (by decide) (pc' := 23) rfl (fun c => ?_) (fun c => ?_)
      · replace h := mm_it h c
        clear c
        exact mm_sub [0] rfl (s_X8_two_J31  h)
      · replace h := mm_if h c
        clear c
        refine mm_iload 4 dX8_two_23 rfl (pc' := 25) rfl ?_
        obtain ⟨t25, h25, h⟩ := mm_bd h
        refine mm_callS (As := [.int v4]) (rest := []) (av := [.int v4]) (wc := []) (is := []) cS_X8_85 (ok_X8_isHour h25) ⟨rfl, rfl, Nat.le_of_ble_eq_true rfl, Nat.le_of_ble_eq_true rfl⟩ dX8_two_25 rfl rfl rfl ⟨rfl, by decide, by decide⟩ (by rintro _ _ ⟨-, rfl⟩; rfl) (Nat.le_of_ble_eq_true rfl) ⟨Nat.le_of_ble_eq_true rfl, Nat.le_of_ble_eq_true rfl⟩ (pc' := 28) rfl ?_
        rintro rv w ⟨rfl, rfl⟩
        show mm_Wp _ _ _ _ 28 [(0, .ref 0), (1, .int v1), (2, .int v2), (3, .int v3), (4, .int v4)] [.int t25] (W_X8 q_textSize q_cursor q_start q_token q_number q_word q_fault q_line q_foundPains q_foundLine q_deadMany q_deadSize q_deadLeast q_deadMost q_st q_before q_kept q_isKept q_refused q_text q_ones q_said q_readTable q_least q_made q_enough q_isWanted q_column q_foundColumn q_walls q_wallMany q_chosen)
        clear h25
        refine mm_if_ne (tgt := 38) dX8_two_28 (by decide) (pc' := 31) rfl (fun c => ?_) (fun c => ?_)
        · replace h := mm_if h c
          clear c
          refine mm_aload_n 0 dX8_two_38 rfl rfl (pc' := 39) rfl ?_
          refine mm_iconst dX8_two_39 ki_0 (pc' := 40) rfl ?_
          refine mm_iload_n 1 dX8_two_40 rfl rfl (pc' := 41) rfl ?_
          refine mm_iload_n 2 dX8_two_41 rfl rfl (pc' := 42) rfl ?_
          obtain ⟨t42, h42, h⟩ := mm_bd h
          refine mm_call0 (As := [.int (0 : Int32), .int v1, .int v2]) (rest := []) cV_X8_248 (ok_X8_findWalls h42) ⟨rfl, rfl, Nat.le_of_ble_eq_true rfl, Nat.le_of_ble_eq_true rfl⟩ dX8_two_42 rfl rfl rfl rfl (by rintro _ _ ⟨-, rfl⟩; rfl) (Nat.le_of_ble_eq_true rfl) ⟨Nat.le_of_ble_eq_true rfl, Nat.le_of_ble_eq_true rfl⟩ (pc' := 45) rfl ?_
          rintro rv w ⟨rfl, rfl⟩
          show mm_Wp _ _ _ _ 45 [(0, .ref 0), (1, .int v1), (2, .int v2), (3, .int v3), (4, .int v4)] [] (W_X8 q_textSize q_cursor q_start q_token q_number q_word q_fault t42.1 q_foundPains q_foundLine q_deadMany q_deadSize q_deadLeast q_deadMost q_st q_before q_kept q_isKept q_refused q_text q_ones q_said q_readTable q_least q_made q_enough q_isWanted t42.2.1 q_foundColumn t42.2.2.1 t42.2.2.2 q_chosen)
          clear h42
          refine mm_aload_n 0 dX8_two_45 rfl rfl (pc' := 46) rfl ?_
          refine mm_iconst dX8_two_46 ki_1 (pc' := 47) rfl ?_
          refine mm_iload_n 3 dX8_two_47 rfl rfl (pc' := 48) rfl ?_
          refine mm_iload 4 dX8_two_48 rfl (pc' := 50) rfl ?_
          obtain ⟨t50, h50, h⟩ := mm_bd h
          refine mm_call0 (As := [.int (1 : Int32), .int v3, .int v4]) (rest := []) cV_X8_248 (ok_X8_findWalls h50) ⟨rfl, rfl, Nat.le_of_ble_eq_true rfl, Nat.le_of_ble_eq_true rfl⟩ dX8_two_50 rfl rfl rfl rfl (by rintro _ _ ⟨-, rfl⟩; rfl) (Nat.le_of_ble_eq_true rfl) ⟨Nat.le_of_ble_eq_true rfl, Nat.le_of_ble_eq_true rfl⟩ (pc' := 53) rfl ?_
          rintro rv w ⟨rfl, rfl⟩
          show mm_Wp _ _ _ _ 53 [(0, .ref 0), (1, .int v1), (2, .int v2), (3, .int v3), (4, .int v4)] [] (W_X8 q_textSize q_cursor q_start q_token q_number q_word q_fault t50.1 q_foundPains q_foundLine q_deadMany q_deadSize q_deadLeast q_deadMost q_st q_before q_kept q_isKept q_refused q_text q_ones q_said q_readTable q_least q_made q_enough q_isWanted t50.2.1 q_foundColumn t50.2.2.1 t50.2.2.2 q_chosen)
          clear h50
          refine mm_iconst dX8_two_53 ki_m1 (pc' := 54) rfl ?_
          refine mm_istore dX8_two_54 (by decide) (l' := [(5, .int (-1 : Int32)), (0, .ref 0), (1, .int v1), (2, .int v2), (3, .int v3), (4, .int v4)]) rfl (pc' := 56) rfl ?_
          refine mm_iconst dX8_two_56 ki_0 (pc' := 57) rfl ?_
          refine mm_istore dX8_two_57 (by decide) (l' := [(6, .int (0 : Int32)), (5, .int (-1 : Int32)), (0, .ref 0), (1, .int v1), (2, .int v2), (3, .int v3), (4, .int v4)]) rfl (pc' := 59) rfl ?_
          exact mm_sub [2, 1, 0] rfl (s_X8_two_L59  _ _ _ h)
        · replace h := mm_it h c
          clear c
          exact mm_sub [0] rfl (s_X8_two_J31  h)

def P_X8_menOf (q_textSize : Int32) (q_cursor : Int32) (q_start : Int32) (q_token : Int32) (q_number : Int32) (q_word : Int64) (q_fault : Int32) (q_line : Int32) (q_foundPains : Int32) (q_foundLine : Int32) (q_deadMany : Int32) (q_deadSize : Int32) (q_deadLeast : Int32) (q_deadMost : Int32) (q_st : Nat → Int32) (q_before : Nat → Int32) (q_kept : Nat → Int32) (q_isKept : Nat → Int32) (q_refused : Nat → Int32) (q_text : Nat → Int32) (q_ones : Nat → Int32) (q_said : Nat → Int32) (q_readTable : Nat → Int32) (q_least : Nat → Int32) (q_made : Nat → Int32) (q_enough : Nat → Int32) (q_isWanted : Nat → Int32) (q_column : Nat → Int32) (q_foundColumn : Nat → Int32) (q_walls : Nat → Int64) (q_wallMany : Nat → Int32) (q_chosen : Nat → Int32) (r : Int32) : Option Value → mm_W → Prop := fun rv w => rv = some (.int r) ∧ w = (W_X8 q_textSize q_cursor q_start q_token q_number q_word q_fault q_line q_foundPains q_foundLine q_deadMany q_deadSize q_deadLeast q_deadMost q_st q_before q_kept q_isKept q_refused q_text q_ones q_said q_readTable q_least q_made q_enough q_isWanted q_column q_foundColumn q_walls q_wallMany q_chosen)
def X8_menOf_J74 (fu : Nat) (rec17 : Int32 → Int32 → Option (Int32)) (q_st : Nat → Int32) (v1 : Int32) (v2 : Int32) (v3 : Int32) (v5 : Int32) (v6 : Int32) (v7 : Int32)  : Option (Int32) := rec17 v6 (v7 + (1 : Int32))
set_option maxHeartbeats 4000000 in
set_option maxRecDepth 100000 in
theorem s_X8_menOf_J74 {fu : Nat} {q_textSize : Int32} {q_cursor : Int32} {q_start : Int32} {q_token : Int32} {q_number : Int32} {q_word : Int64} {q_fault : Int32} {q_line : Int32} {q_foundPains : Int32} {q_foundLine : Int32} {q_deadMany : Int32} {q_deadSize : Int32} {q_deadLeast : Int32} {q_deadMost : Int32} {q_st : Nat → Int32} {q_before : Nat → Int32} {q_kept : Nat → Int32} {q_isKept : Nat → Int32} {q_refused : Nat → Int32} {q_text : Nat → Int32} {q_ones : Nat → Int32} {q_said : Nat → Int32} {q_readTable : Nat → Int32} {q_least : Nat → Int32} {q_made : Nat → Int32} {q_enough : Nat → Int32} {q_isWanted : Nat → Int32} {q_column : Nat → Int32} {q_foundColumn : Nat → Int32} {q_walls : Nat → Int64} {q_wallMany : Nat → Int32} {q_chosen : Nat → Int32} {r : Int32} {rec17 : Int32 → Int32 → Option (Int32)} {v1 : Int32} {v2 : Int32} {v3 : Int32} {v5 : Int32} {v6 : Int32} {v7 : Int32} (hr17 : ∀ (y6 : Int32) (y7 : Int32), rec17 y6 y7 = some r → mm_Wp mX8_menOf (mm_R (P_X8_menOf q_textSize q_cursor q_start q_token q_number q_word q_fault q_line q_foundPains q_foundLine q_deadMany q_deadSize q_deadLeast q_deadMost q_st q_before q_kept q_isKept q_refused q_text q_ones q_said q_readTable q_least q_made q_enough q_isWanted q_column q_foundColumn q_walls q_wallMany q_chosen r)) 0 0 17 [(0, .ref 0), (1, .int v1), (2, .int v2), (3, .int v3), (5, .int v5), (6, .int y6), (7, .int y7)] [] (W_X8 q_textSize q_cursor q_start q_token q_number q_word q_fault q_line q_foundPains q_foundLine q_deadMany q_deadSize q_deadLeast q_deadMost q_st q_before q_kept q_isKept q_refused q_text q_ones q_said q_readTable q_least q_made q_enough q_isWanted q_column q_foundColumn q_walls q_wallMany q_chosen)) (h : X8_menOf_J74 fu rec17 q_st v1 v2 v3 v5 v6 v7 = some r) : mm_Wp mX8_menOf (mm_R (P_X8_menOf q_textSize q_cursor q_start q_token q_number q_word q_fault q_line q_foundPains q_foundLine q_deadMany q_deadSize q_deadLeast q_deadMost q_st q_before q_kept q_isKept q_refused q_text q_ones q_said q_readTable q_least q_made q_enough q_isWanted q_column q_foundColumn q_walls q_wallMany q_chosen r)) 0 0 74 [(0, .ref 0), (1, .int v1), (2, .int v2), (3, .int v3), (5, .int v5), (6, .int v6), (7, .int v7)] [] (W_X8 q_textSize q_cursor q_start q_token q_number q_word q_fault q_line q_foundPains q_foundLine q_deadMany q_deadSize q_deadLeast q_deadMost q_st q_before q_kept q_isKept q_refused q_text q_ones q_said q_readTable q_least q_made q_enough q_isWanted q_column q_foundColumn q_walls q_wallMany q_chosen) := by
  rw [X8_menOf_J74] at h
  refine mm_iinc 6 dX8_menOf_74 rfl ki_1 (by decide) (l' := [(7, .int (v7 + (1 : Int32))), (0, .ref 0), (1, .int v1), (2, .int v2), (3, .int v3), (5, .int v5), (6, .int v6)]) rfl (pc' := 77) rfl ?_
  refine mm_goto (tgt := 17) dX8_menOf_77 (by decide) ?_
  exact mm_sub [1, 2, 3, 4, 5, 6, 0] rfl (hr17 _ _ h)
def X8_menOf_L17 (fu : Nat)  (q_st : Nat → Int32) (v1 : Int32) (v2 : Int32) (v3 : Int32) (v5 : Int32) : Nat → Int32 → Int32 → Option (Int32)
  | 0, _, _ => none
  | n + 1, v6, v7 => if (12 : Int32) ≤ v7 then (some (v6)) else (if ((v5 >>> (v7 &&& 31)) &&& (1 : Int32)) = (1 : Int32) then ((f_X8_cellOf fu v3 v7).bind fun t40 => (f_X8_price fu q_st v2 t40 v1).bind fun t44 => if t44 = (-1 : Int32) then (some ((-1 : Int32))) else ((f_X8_cellOf fu v3 v7).bind fun t65 => mm_rd q_st 354 ((36 : Int32) + t65) fun x69 => mm_let (v6 ||| ((1 : Int32) <<< (x69 &&& 31))) fun y72 => X8_menOf_J74 fu (X8_menOf_L17 fu q_st v1 v2 v3 v5 n) q_st v1 v2 v3 v5 y72 v7)) else (X8_menOf_J74 fu (X8_menOf_L17 fu q_st v1 v2 v3 v5 n) q_st v1 v2 v3 v5 v6 v7))
set_option maxHeartbeats 4000000 in
set_option maxRecDepth 100000 in
theorem s_X8_menOf_L17 {fu : Nat} {q_textSize : Int32} {q_cursor : Int32} {q_start : Int32} {q_token : Int32} {q_number : Int32} {q_word : Int64} {q_fault : Int32} {q_line : Int32} {q_foundPains : Int32} {q_foundLine : Int32} {q_deadMany : Int32} {q_deadSize : Int32} {q_deadLeast : Int32} {q_deadMost : Int32} {q_st : Nat → Int32} {q_before : Nat → Int32} {q_kept : Nat → Int32} {q_isKept : Nat → Int32} {q_refused : Nat → Int32} {q_text : Nat → Int32} {q_ones : Nat → Int32} {q_said : Nat → Int32} {q_readTable : Nat → Int32} {q_least : Nat → Int32} {q_made : Nat → Int32} {q_enough : Nat → Int32} {q_isWanted : Nat → Int32} {q_column : Nat → Int32} {q_foundColumn : Nat → Int32} {q_walls : Nat → Int64} {q_wallMany : Nat → Int32} {q_chosen : Nat → Int32} {r : Int32} {v1 : Int32} {v2 : Int32} {v3 : Int32} {v5 : Int32} : ∀ (n : Nat) (v6 : Int32) (v7 : Int32), X8_menOf_L17 fu q_st v1 v2 v3 v5 n v6 v7 = some r → mm_Wp mX8_menOf (mm_R (P_X8_menOf q_textSize q_cursor q_start q_token q_number q_word q_fault q_line q_foundPains q_foundLine q_deadMany q_deadSize q_deadLeast q_deadMost q_st q_before q_kept q_isKept q_refused q_text q_ones q_said q_readTable q_least q_made q_enough q_isWanted q_column q_foundColumn q_walls q_wallMany q_chosen r)) 0 0 17 [(0, .ref 0), (1, .int v1), (2, .int v2), (3, .int v3), (5, .int v5), (6, .int v6), (7, .int v7)] [] (W_X8 q_textSize q_cursor q_start q_token q_number q_word q_fault q_line q_foundPains q_foundLine q_deadMany q_deadSize q_deadLeast q_deadMost q_st q_before q_kept q_isKept q_refused q_text q_ones q_said q_readTable q_least q_made q_enough q_isWanted q_column q_foundColumn q_walls q_wallMany q_chosen) := by
  intro n
  induction n with
  | zero =>
    intro v6 v7 h
    rw [X8_menOf_L17] at h
    cases h
  | succ n hr17 =>
    intro v6 v7 h
    rw [X8_menOf_L17] at h
    refine mm_iload 6 dX8_menOf_17 rfl (pc' := 19) rfl ?_
    refine mm_bipush dX8_menOf_19 kb_12 (pc' := 21) rfl ?_
    refine mm_icmp_ge (tgt := 80) dX8_menOf_21 (by decide) (pc' := 24) rfl (fun c => ?_) (fun c => ?_)
    · replace h := mm_it h c
      clear c
      refine mm_iload 5 dX8_menOf_80 rfl (pc' := 82) rfl ?_
      have h9 := Option.some.inj h
      subst h9
      exact mm_iret rfl dX8_menOf_82 ⟨rfl, rfl⟩
    · replace h := mm_if h c
      clear c
      refine mm_iload 4 dX8_menOf_24 rfl (pc' := 26) rfl ?_
      refine mm_iload 6 dX8_menOf_26 rfl (pc' := 28) rfl ?_
      refine mm_ishr dX8_menOf_28 (pc' := 29) rfl ?_
      refine mm_iconst dX8_menOf_29 ki_1 (pc' := 30) rfl ?_
      refine mm_iand dX8_menOf_30 (pc' := 31) rfl ?_
      refine mm_iconst dX8_menOf_31 ki_1 (pc' := 32) rfl ?_
      refine mm_icmp_ne (tgt := 74) dX8_menOf_32 (by decide) (pc' := 35) rfl (fun c => ?_) (fun c => ?_)
      · replace h := mm_if h c
        clear c
        exact s_X8_menOf_J74 (hr17 := hr17) h
      · replace h := mm_it h c
        clear c
        refine mm_aload_n 0 dX8_menOf_35 rfl rfl (pc' := 36) rfl ?_
        refine mm_iload_n 2 dX8_menOf_36 rfl rfl (pc' := 37) rfl ?_
        refine mm_iload_n 3 dX8_menOf_37 rfl rfl (pc' := 38) rfl ?_
        refine mm_iload 6 dX8_menOf_38 rfl (pc' := 40) rfl ?_
        obtain ⟨t40, h40, h⟩ := mm_bd h
        refine mm_callS (As := [.int v3, .int v7]) (rest := [.int v2, .ref 0]) (av := [.int v3, .int v7]) (wc := []) (is := []) cS_X8_183 (ok_X8_cellOf h40) ⟨rfl, rfl, Nat.le_of_ble_eq_true rfl, Nat.le_of_ble_eq_true rfl⟩ dX8_menOf_40 rfl rfl rfl ⟨rfl, by decide, by decide⟩ (by rintro _ _ ⟨-, rfl⟩; rfl) (Nat.le_of_ble_eq_true rfl) ⟨Nat.le_of_ble_eq_true rfl, Nat.le_of_ble_eq_true rfl⟩ (pc' := 43) rfl ?_
        rintro rv w ⟨rfl, rfl⟩
        show mm_Wp _ _ _ _ 43 [(0, .ref 0), (1, .int v1), (2, .int v2), (3, .int v3), (5, .int v5), (6, .int v6), (7, .int v7)] [.int t40, .int v2, .ref 0] (W_X8 q_textSize q_cursor q_start q_token q_number q_word q_fault q_line q_foundPains q_foundLine q_deadMany q_deadSize q_deadLeast q_deadMost q_st q_before q_kept q_isKept q_refused q_text q_ones q_said q_readTable q_least q_made q_enough q_isWanted q_column q_foundColumn q_walls q_wallMany q_chosen)
        clear h40
        refine mm_iload_n 1 dX8_menOf_43 rfl rfl (pc' := 44) rfl ?_
        obtain ⟨t44, h44, h⟩ := mm_bd h
        refine mm_call0 (As := [.int v2, .int t40, .int v1]) (rest := []) cV_X8_118 (ok_X8_price h44) ⟨rfl, rfl, Nat.le_of_ble_eq_true rfl, Nat.le_of_ble_eq_true rfl⟩ dX8_menOf_44 rfl rfl rfl rfl (by rintro _ _ ⟨-, rfl⟩; rfl) (Nat.le_of_ble_eq_true rfl) ⟨Nat.le_of_ble_eq_true rfl, Nat.le_of_ble_eq_true rfl⟩ (pc' := 47) rfl ?_
        rintro rv w ⟨rfl, rfl⟩
        show mm_Wp _ _ _ _ 47 [(0, .ref 0), (1, .int v1), (2, .int v2), (3, .int v3), (5, .int v5), (6, .int v6), (7, .int v7)] [.int t44] (W_X8 q_textSize q_cursor q_start q_token q_number q_word q_fault q_line q_foundPains q_foundLine q_deadMany q_deadSize q_deadLeast q_deadMost q_st q_before q_kept q_isKept q_refused q_text q_ones q_said q_readTable q_least q_made q_enough q_isWanted q_column q_foundColumn q_walls q_wallMany q_chosen)
        clear h44
        refine mm_iconst dX8_menOf_47 ki_m1 (pc' := 48) rfl ?_
        refine mm_icmp_ne (tgt := 53) dX8_menOf_48 (by decide) (pc' := 51) rfl (fun c => ?_) (fun c => ?_)
        · replace h := mm_if h c
          clear c
          refine mm_iload 5 dX8_menOf_53 rfl (pc' := 55) rfl ?_
          refine mm_iconst dX8_menOf_55 ki_1 (pc' := 56) rfl ?_
          refine mm_aload_n 0 dX8_menOf_56 rfl rfl (pc' := 57) rfl ?_
          refine mm_getf fG_X8_7 dX8_menOf_57 rfl rfl (pc' := 60) rfl ?_
          refine mm_bipush dX8_menOf_60 kb_36 (pc' := 62) rfl ?_
          refine mm_iload_n 3 dX8_menOf_62 rfl rfl (pc' := 63) rfl ?_
          refine mm_iload 6 dX8_menOf_63 rfl (pc' := 65) rfl ?_
          obtain ⟨t65, h65, h⟩ := mm_bd h
          refine mm_callS (As := [.int v3, .int v7]) (rest := [.int (36 : Int32), .ref 1, .int (1 : Int32), .int v6]) (av := [.int v3, .int v7]) (wc := []) (is := []) cS_X8_183 (ok_X8_cellOf h65) ⟨rfl, rfl, Nat.le_of_ble_eq_true rfl, Nat.le_of_ble_eq_true rfl⟩ dX8_menOf_65 rfl rfl rfl ⟨rfl, by decide, by decide⟩ (by rintro _ _ ⟨-, rfl⟩; rfl) (Nat.le_of_ble_eq_true rfl) ⟨Nat.le_of_ble_eq_true rfl, Nat.le_of_ble_eq_true rfl⟩ (pc' := 68) rfl ?_
          rintro rv w ⟨rfl, rfl⟩
          show mm_Wp _ _ _ _ 68 [(0, .ref 0), (1, .int v1), (2, .int v2), (3, .int v3), (5, .int v5), (6, .int v6), (7, .int v7)] [.int t65, .int (36 : Int32), .ref 1, .int (1 : Int32), .int v6] (W_X8 q_textSize q_cursor q_start q_token q_number q_word q_fault q_line q_foundPains q_foundLine q_deadMany q_deadSize q_deadLeast q_deadMost q_st q_before q_kept q_isKept q_refused q_text q_ones q_said q_readTable q_least q_made q_enough q_isWanted q_column q_foundColumn q_walls q_wallMany q_chosen)
          clear h65
          refine mm_iadd dX8_menOf_68 (pc' := 69) rfl ?_
          obtain ⟨x69, c69, e69, h⟩ := mm_rd_of h
          refine mm_iald dX8_menOf_69 rfl c69 e69 (pc' := 70) rfl ?_
          clear c69 e69
          refine mm_ishl dX8_menOf_70 (pc' := 71) rfl ?_
          refine mm_ior dX8_menOf_71 (pc' := 72) rfl ?_
          refine mm_topi (fun y72 e => ?_)
          replace h := mm_let_of h y72 e
          clear e
          refine mm_istore dX8_menOf_72 (by decide) (l' := [(6, .int y72), (0, .ref 0), (1, .int v1), (2, .int v2), (3, .int v3), (5, .int v5), (7, .int v7)]) rfl (pc' := 74) rfl ?_
          exact mm_sub [1, 2, 3, 4, 5, 0, 6] rfl (s_X8_menOf_J74 (hr17 := hr17) h)
        · replace h := mm_it h c
          clear c
          refine mm_iconst dX8_menOf_51 ki_m1 (pc' := 52) rfl ?_
          have h9 := Option.some.inj h
          subst h9
          exact mm_iret rfl dX8_menOf_52 ⟨rfl, rfl⟩
def f_X8_menOf (fu : Nat) (q_st : Nat → Int32) (v1 : Int32) (v2 : Int32) (v3 : Int32) (v4 : Int32) : Option (Int32) := (f_X8_shapeAt fu q_st v2 v3).bind fun t5 => X8_menOf_L17 fu q_st v1 v2 v3 (v4 ^^^ t5) fu (0 : Int32) (0 : Int32)
set_option maxHeartbeats 4000000 in
set_option maxRecDepth 100000 in
theorem ok_X8_menOf {fu : Nat} {q_textSize : Int32} {q_cursor : Int32} {q_start : Int32} {q_token : Int32} {q_number : Int32} {q_word : Int64} {q_fault : Int32} {q_line : Int32} {q_foundPains : Int32} {q_foundLine : Int32} {q_deadMany : Int32} {q_deadSize : Int32} {q_deadLeast : Int32} {q_deadMost : Int32} {q_st : Nat → Int32} {q_before : Nat → Int32} {q_kept : Nat → Int32} {q_isKept : Nat → Int32} {q_refused : Nat → Int32} {q_text : Nat → Int32} {q_ones : Nat → Int32} {q_said : Nat → Int32} {q_readTable : Nat → Int32} {q_least : Nat → Int32} {q_made : Nat → Int32} {q_enough : Nat → Int32} {q_isWanted : Nat → Int32} {q_column : Nat → Int32} {q_foundColumn : Nat → Int32} {q_walls : Nat → Int64} {q_wallMany : Nat → Int32} {q_chosen : Nat → Int32} {r : Int32} {v1 : Int32} {v2 : Int32} {v3 : Int32} {v4 : Int32} (h : f_X8_menOf fu q_st v1 v2 v3 v4 = some r) : mm_Ok mX8_menOf [.ref 0, .int v1, .int v2, .int v3, .int v4] (W_X8 q_textSize q_cursor q_start q_token q_number q_word q_fault q_line q_foundPains q_foundLine q_deadMany q_deadSize q_deadLeast q_deadMost q_st q_before q_kept q_isKept q_refused q_text q_ones q_said q_readTable q_least q_made q_enough q_isWanted q_column q_foundColumn q_walls q_wallMany q_chosen) (P_X8_menOf q_textSize q_cursor q_start q_token q_number q_word q_fault q_line q_foundPains q_foundLine q_deadMany q_deadSize q_deadLeast q_deadMost q_st q_before q_kept q_isKept q_refused q_text q_ones q_said q_readTable q_least q_made q_enough q_isWanted q_column q_foundColumn q_walls q_wallMany q_chosen r) := by
  rw [f_X8_menOf] at h
  refine mm_Ok.of pn_X8 (l := [(0, .ref 0), (1, .int v1), (2, .int v2), (3, .int v3), (4, .int v4)]) rfl (Nat.le_of_ble_eq_true rfl) ?_
  refine mm_iload 4 dX8_menOf_0 rfl (pc' := 2) rfl ?_
  refine mm_aload_n 0 dX8_menOf_2 rfl rfl (pc' := 3) rfl ?_
  refine mm_iload_n 2 dX8_menOf_3 rfl rfl (pc' := 4) rfl ?_
  refine mm_iload_n 3 dX8_menOf_4 rfl rfl (pc' := 5) rfl ?_
  obtain ⟨t5, h5, h⟩ := mm_bd h
  refine mm_call0 (As := [.int v2, .int v3]) (rest := [.int v4]) cV_X8_192 (ok_X8_shapeAt h5) ⟨rfl, rfl, Nat.le_of_ble_eq_true rfl, Nat.le_of_ble_eq_true rfl⟩ dX8_menOf_5 rfl rfl rfl rfl (by rintro _ _ ⟨-, rfl⟩; rfl) (Nat.le_of_ble_eq_true rfl) ⟨Nat.le_of_ble_eq_true rfl, Nat.le_of_ble_eq_true rfl⟩ (pc' := 8) rfl ?_
  rintro rv w ⟨rfl, rfl⟩
  show mm_Wp _ _ _ _ 8 [(0, .ref 0), (1, .int v1), (2, .int v2), (3, .int v3), (4, .int v4)] [.int t5, .int v4] (W_X8 q_textSize q_cursor q_start q_token q_number q_word q_fault q_line q_foundPains q_foundLine q_deadMany q_deadSize q_deadLeast q_deadMost q_st q_before q_kept q_isKept q_refused q_text q_ones q_said q_readTable q_least q_made q_enough q_isWanted q_column q_foundColumn q_walls q_wallMany q_chosen)
  clear h5
  refine mm_ixor dX8_menOf_8 (pc' := 9) rfl ?_
  refine mm_istore dX8_menOf_9 (by decide) (l' := [(5, .int (v4 ^^^ t5)), (0, .ref 0), (1, .int v1), (2, .int v2), (3, .int v3), (4, .int v4)]) rfl (pc' := 11) rfl ?_
  refine mm_iconst dX8_menOf_11 ki_0 (pc' := 12) rfl ?_
  refine mm_istore dX8_menOf_12 (by decide) (l' := [(6, .int (0 : Int32)), (5, .int (v4 ^^^ t5)), (0, .ref 0), (1, .int v1), (2, .int v2), (3, .int v3), (4, .int v4)]) rfl (pc' := 14) rfl ?_
  refine mm_iconst dX8_menOf_14 ki_0 (pc' := 15) rfl ?_
  refine mm_istore dX8_menOf_15 (by decide) (l' := [(7, .int (0 : Int32)), (6, .int (0 : Int32)), (5, .int (v4 ^^^ t5)), (0, .ref 0), (1, .int v1), (2, .int v2), (3, .int v3), (4, .int v4)]) rfl (pc' := 17) rfl ?_
  exact mm_sub [3, 4, 5, 6, 2, 1, 0] rfl (s_X8_menOf_L17  _ _ _ h)

def P_X8_findEnough (q_textSize : Int32) (q_cursor : Int32) (q_start : Int32) (q_token : Int32) (q_number : Int32) (q_word : Int64) (q_fault : Int32) (q_line : Int32) (q_foundPains : Int32) (q_foundLine : Int32) (q_deadMany : Int32) (q_deadSize : Int32) (q_deadLeast : Int32) (q_deadMost : Int32) (q_st : Nat → Int32) (q_before : Nat → Int32) (q_kept : Nat → Int32) (q_isKept : Nat → Int32) (q_refused : Nat → Int32) (q_text : Nat → Int32) (q_ones : Nat → Int32) (q_said : Nat → Int32) (q_readTable : Nat → Int32) (q_least : Nat → Int32) (q_made : Nat → Int32) (q_column : Nat → Int32) (q_foundColumn : Nat → Int32) (q_walls : Nat → Int64) (q_wallMany : Nat → Int32) (q_chosen : Nat → Int32) (r : (Nat → Int32) × (Nat → Int32)) : Option Value → mm_W → Prop := fun rv w => rv = none ∧ w = (W_X8 q_textSize q_cursor q_start q_token q_number q_word q_fault q_line q_foundPains q_foundLine q_deadMany q_deadSize q_deadLeast q_deadMost q_st q_before q_kept q_isKept q_refused q_text q_ones q_said q_readTable q_least q_made r.1 r.2 q_column q_foundColumn q_walls q_wallMany q_chosen)
def X8_findEnough_J143 (fu : Nat) (rec93 : (Nat → Int32) → Int32 → Option ((Nat → Int32) × (Nat → Int32))) (rec106 : Int32 → Int32 → Option ((Nat → Int32) × (Nat → Int32))) (q_st : Nat → Int32) (q_readTable : Nat → Int32) (q_enough : Nat → Int32) (q_isWanted : Nat → Int32) (v3 : Int32) (v4 : Int32) (v6 : Int32) (v8 : Int32) (s0 : Int32) : Option ((Nat → Int32) × (Nat → Int32)) := rec106 s0 (v8 + (1 : Int32))
set_option maxHeartbeats 4000000 in
set_option maxRecDepth 100000 in
theorem s_X8_findEnough_J143 {fu : Nat} {q_textSize : Int32} {q_cursor : Int32} {q_start : Int32} {q_token : Int32} {q_number : Int32} {q_word : Int64} {q_fault : Int32} {q_line : Int32} {q_foundPains : Int32} {q_foundLine : Int32} {q_deadMany : Int32} {q_deadSize : Int32} {q_deadLeast : Int32} {q_deadMost : Int32} {q_st : Nat → Int32} {q_before : Nat → Int32} {q_kept : Nat → Int32} {q_isKept : Nat → Int32} {q_refused : Nat → Int32} {q_text : Nat → Int32} {q_ones : Nat → Int32} {q_said : Nat → Int32} {q_readTable : Nat → Int32} {q_least : Nat → Int32} {q_made : Nat → Int32} {q_enough : Nat → Int32} {q_isWanted : Nat → Int32} {q_column : Nat → Int32} {q_foundColumn : Nat → Int32} {q_walls : Nat → Int64} {q_wallMany : Nat → Int32} {q_chosen : Nat → Int32} {r : (Nat → Int32) × (Nat → Int32)} {rec93 : (Nat → Int32) → Int32 → Option ((Nat → Int32) × (Nat → Int32))} {rec106 : Int32 → Int32 → Option ((Nat → Int32) × (Nat → Int32))} {v3 : Int32} {v4 : Int32} {v6 : Int32} {v8 : Int32} {s0 : Int32} (hr93 : ∀ (z_q_enough : Nat → Int32) (y6 : Int32), rec93 z_q_enough y6 = some r → mm_Wp mX8_findEnough (mm_R (P_X8_findEnough q_textSize q_cursor q_start q_token q_number q_word q_fault q_line q_foundPains q_foundLine q_deadMany q_deadSize q_deadLeast q_deadMost q_st q_before q_kept q_isKept q_refused q_text q_ones q_said q_readTable q_least q_made q_column q_foundColumn q_walls q_wallMany q_chosen r)) 0 0 93 [(0, .ref 0), (3, .int v3), (4, .int v4), (6, .int y6)] [] (W_X8 q_textSize q_cursor q_start q_token q_number q_word q_fault q_line q_foundPains q_foundLine q_deadMany q_deadSize q_deadLeast q_deadMost q_st q_before q_kept q_isKept q_refused q_text q_ones q_said q_readTable q_least q_made z_q_enough q_isWanted q_column q_foundColumn q_walls q_wallMany q_chosen)) (hr106 : ∀ (y7 : Int32) (y8 : Int32), rec106 y7 y8 = some r → mm_Wp mX8_findEnough (mm_R (P_X8_findEnough q_textSize q_cursor q_start q_token q_number q_word q_fault q_line q_foundPains q_foundLine q_deadMany q_deadSize q_deadLeast q_deadMost q_st q_before q_kept q_isKept q_refused q_text q_ones q_said q_readTable q_least q_made q_column q_foundColumn q_walls q_wallMany q_chosen r)) 0 0 106 [(0, .ref 0), (3, .int v3), (4, .int v4), (6, .int v6), (7, .int y7), (8, .int y8)] [] (W_X8 q_textSize q_cursor q_start q_token q_number q_word q_fault q_line q_foundPains q_foundLine q_deadMany q_deadSize q_deadLeast q_deadMost q_st q_before q_kept q_isKept q_refused q_text q_ones q_said q_readTable q_least q_made q_enough q_isWanted q_column q_foundColumn q_walls q_wallMany q_chosen)) (h : X8_findEnough_J143 fu rec93 rec106 q_st q_readTable q_enough q_isWanted v3 v4 v6 v8 s0 = some r) : mm_Wp mX8_findEnough (mm_R (P_X8_findEnough q_textSize q_cursor q_start q_token q_number q_word q_fault q_line q_foundPains q_foundLine q_deadMany q_deadSize q_deadLeast q_deadMost q_st q_before q_kept q_isKept q_refused q_text q_ones q_said q_readTable q_least q_made q_column q_foundColumn q_walls q_wallMany q_chosen r)) 0 0 143 [(0, .ref 0), (3, .int v3), (4, .int v4), (6, .int v6), (8, .int v8)] [.int s0] (W_X8 q_textSize q_cursor q_start q_token q_number q_word q_fault q_line q_foundPains q_foundLine q_deadMany q_deadSize q_deadLeast q_deadMost q_st q_before q_kept q_isKept q_refused q_text q_ones q_said q_readTable q_least q_made q_enough q_isWanted q_column q_foundColumn q_walls q_wallMany q_chosen) := by
  rw [X8_findEnough_J143] at h
  refine mm_istore dX8_findEnough_143 (by decide) (l' := [(7, .int s0), (0, .ref 0), (3, .int v3), (4, .int v4), (6, .int v6), (8, .int v8)]) rfl (pc' := 145) rfl ?_
  refine mm_iinc 5 dX8_findEnough_145 rfl ki_1 (by decide) (l' := [(8, .int (v8 + (1 : Int32))), (7, .int s0), (0, .ref 0), (3, .int v3), (4, .int v4), (6, .int v6)]) rfl (pc' := 148) rfl ?_
  refine mm_goto (tgt := 106) dX8_findEnough_148 (by decide) ?_
  exact mm_sub [2, 3, 4, 5, 1, 0] rfl (hr106 _ _ h)
def X8_findEnough_J138 (fu : Nat) (rec93 : (Nat → Int32) → Int32 → Option ((Nat → Int32) × (Nat → Int32))) (rec106 : Int32 → Int32 → Option ((Nat → Int32) × (Nat → Int32))) (q_st : Nat → Int32) (q_readTable : Nat → Int32) (q_enough : Nat → Int32) (q_isWanted : Nat → Int32) (v3 : Int32) (v4 : Int32) (v6 : Int32) (v8 : Int32)  : Option ((Nat → Int32) × (Nat → Int32)) := X8_findEnough_J143 fu rec93 rec106 q_st q_readTable q_enough q_isWanted v3 v4 v6 v8 (1 : Int32)
set_option maxHeartbeats 4000000 in
set_option maxRecDepth 100000 in
theorem s_X8_findEnough_J138 {fu : Nat} {q_textSize : Int32} {q_cursor : Int32} {q_start : Int32} {q_token : Int32} {q_number : Int32} {q_word : Int64} {q_fault : Int32} {q_line : Int32} {q_foundPains : Int32} {q_foundLine : Int32} {q_deadMany : Int32} {q_deadSize : Int32} {q_deadLeast : Int32} {q_deadMost : Int32} {q_st : Nat → Int32} {q_before : Nat → Int32} {q_kept : Nat → Int32} {q_isKept : Nat → Int32} {q_refused : Nat → Int32} {q_text : Nat → Int32} {q_ones : Nat → Int32} {q_said : Nat → Int32} {q_readTable : Nat → Int32} {q_least : Nat → Int32} {q_made : Nat → Int32} {q_enough : Nat → Int32} {q_isWanted : Nat → Int32} {q_column : Nat → Int32} {q_foundColumn : Nat → Int32} {q_walls : Nat → Int64} {q_wallMany : Nat → Int32} {q_chosen : Nat → Int32} {r : (Nat → Int32) × (Nat → Int32)} {rec93 : (Nat → Int32) → Int32 → Option ((Nat → Int32) × (Nat → Int32))} {rec106 : Int32 → Int32 → Option ((Nat → Int32) × (Nat → Int32))} {v3 : Int32} {v4 : Int32} {v6 : Int32} {v8 : Int32} (hr93 : ∀ (z_q_enough : Nat → Int32) (y6 : Int32), rec93 z_q_enough y6 = some r → mm_Wp mX8_findEnough (mm_R (P_X8_findEnough q_textSize q_cursor q_start q_token q_number q_word q_fault q_line q_foundPains q_foundLine q_deadMany q_deadSize q_deadLeast q_deadMost q_st q_before q_kept q_isKept q_refused q_text q_ones q_said q_readTable q_least q_made q_column q_foundColumn q_walls q_wallMany q_chosen r)) 0 0 93 [(0, .ref 0), (3, .int v3), (4, .int v4), (6, .int y6)] [] (W_X8 q_textSize q_cursor q_start q_token q_number q_word q_fault q_line q_foundPains q_foundLine q_deadMany q_deadSize q_deadLeast q_deadMost q_st q_before q_kept q_isKept q_refused q_text q_ones q_said q_readTable q_least q_made z_q_enough q_isWanted q_column q_foundColumn q_walls q_wallMany q_chosen)) (hr106 : ∀ (y7 : Int32) (y8 : Int32), rec106 y7 y8 = some r → mm_Wp mX8_findEnough (mm_R (P_X8_findEnough q_textSize q_cursor q_start q_token q_number q_word q_fault q_line q_foundPains q_foundLine q_deadMany q_deadSize q_deadLeast q_deadMost q_st q_before q_kept q_isKept q_refused q_text q_ones q_said q_readTable q_least q_made q_column q_foundColumn q_walls q_wallMany q_chosen r)) 0 0 106 [(0, .ref 0), (3, .int v3), (4, .int v4), (6, .int v6), (7, .int y7), (8, .int y8)] [] (W_X8 q_textSize q_cursor q_start q_token q_number q_word q_fault q_line q_foundPains q_foundLine q_deadMany q_deadSize q_deadLeast q_deadMost q_st q_before q_kept q_isKept q_refused q_text q_ones q_said q_readTable q_least q_made q_enough q_isWanted q_column q_foundColumn q_walls q_wallMany q_chosen)) (h : X8_findEnough_J138 fu rec93 rec106 q_st q_readTable q_enough q_isWanted v3 v4 v6 v8 = some r) : mm_Wp mX8_findEnough (mm_R (P_X8_findEnough q_textSize q_cursor q_start q_token q_number q_word q_fault q_line q_foundPains q_foundLine q_deadMany q_deadSize q_deadLeast q_deadMost q_st q_before q_kept q_isKept q_refused q_text q_ones q_said q_readTable q_least q_made q_column q_foundColumn q_walls q_wallMany q_chosen r)) 0 0 138 [(0, .ref 0), (3, .int v3), (4, .int v4), (6, .int v6), (8, .int v8)] [] (W_X8 q_textSize q_cursor q_start q_token q_number q_word q_fault q_line q_foundPains q_foundLine q_deadMany q_deadSize q_deadLeast q_deadMost q_st q_before q_kept q_isKept q_refused q_text q_ones q_said q_readTable q_least q_made q_enough q_isWanted q_column q_foundColumn q_walls q_wallMany q_chosen) := by
  rw [X8_findEnough_J138] at h
  refine mm_iconst dX8_findEnough_138 ki_1 (pc' := 139) rfl ?_
  refine mm_goto (tgt := 143) dX8_findEnough_139 (by decide) ?_
  exact s_X8_findEnough_J143 (hr93 := hr93) (hr106 := hr106) h
def X8_findEnough_J142 (fu : Nat) (rec93 : (Nat → Int32) → Int32 → Option ((Nat → Int32) × (Nat → Int32))) (rec106 : Int32 → Int32 → Option ((Nat → Int32) × (Nat → Int32))) (q_st : Nat → Int32) (q_readTable : Nat → Int32) (q_enough : Nat → Int32) (q_isWanted : Nat → Int32) (v3 : Int32) (v4 : Int32) (v6 : Int32) (v8 : Int32)  : Option ((Nat → Int32) × (Nat → Int32)) := X8_findEnough_J143 fu rec93 rec106 q_st q_readTable q_enough q_isWanted v3 v4 v6 v8 (0 : Int32)
set_option maxHeartbeats 4000000 in
set_option maxRecDepth 100000 in
theorem s_X8_findEnough_J142 {fu : Nat} {q_textSize : Int32} {q_cursor : Int32} {q_start : Int32} {q_token : Int32} {q_number : Int32} {q_word : Int64} {q_fault : Int32} {q_line : Int32} {q_foundPains : Int32} {q_foundLine : Int32} {q_deadMany : Int32} {q_deadSize : Int32} {q_deadLeast : Int32} {q_deadMost : Int32} {q_st : Nat → Int32} {q_before : Nat → Int32} {q_kept : Nat → Int32} {q_isKept : Nat → Int32} {q_refused : Nat → Int32} {q_text : Nat → Int32} {q_ones : Nat → Int32} {q_said : Nat → Int32} {q_readTable : Nat → Int32} {q_least : Nat → Int32} {q_made : Nat → Int32} {q_enough : Nat → Int32} {q_isWanted : Nat → Int32} {q_column : Nat → Int32} {q_foundColumn : Nat → Int32} {q_walls : Nat → Int64} {q_wallMany : Nat → Int32} {q_chosen : Nat → Int32} {r : (Nat → Int32) × (Nat → Int32)} {rec93 : (Nat → Int32) → Int32 → Option ((Nat → Int32) × (Nat → Int32))} {rec106 : Int32 → Int32 → Option ((Nat → Int32) × (Nat → Int32))} {v3 : Int32} {v4 : Int32} {v6 : Int32} {v8 : Int32} (hr93 : ∀ (z_q_enough : Nat → Int32) (y6 : Int32), rec93 z_q_enough y6 = some r → mm_Wp mX8_findEnough (mm_R (P_X8_findEnough q_textSize q_cursor q_start q_token q_number q_word q_fault q_line q_foundPains q_foundLine q_deadMany q_deadSize q_deadLeast q_deadMost q_st q_before q_kept q_isKept q_refused q_text q_ones q_said q_readTable q_least q_made q_column q_foundColumn q_walls q_wallMany q_chosen r)) 0 0 93 [(0, .ref 0), (3, .int v3), (4, .int v4), (6, .int y6)] [] (W_X8 q_textSize q_cursor q_start q_token q_number q_word q_fault q_line q_foundPains q_foundLine q_deadMany q_deadSize q_deadLeast q_deadMost q_st q_before q_kept q_isKept q_refused q_text q_ones q_said q_readTable q_least q_made z_q_enough q_isWanted q_column q_foundColumn q_walls q_wallMany q_chosen)) (hr106 : ∀ (y7 : Int32) (y8 : Int32), rec106 y7 y8 = some r → mm_Wp mX8_findEnough (mm_R (P_X8_findEnough q_textSize q_cursor q_start q_token q_number q_word q_fault q_line q_foundPains q_foundLine q_deadMany q_deadSize q_deadLeast q_deadMost q_st q_before q_kept q_isKept q_refused q_text q_ones q_said q_readTable q_least q_made q_column q_foundColumn q_walls q_wallMany q_chosen r)) 0 0 106 [(0, .ref 0), (3, .int v3), (4, .int v4), (6, .int v6), (7, .int y7), (8, .int y8)] [] (W_X8 q_textSize q_cursor q_start q_token q_number q_word q_fault q_line q_foundPains q_foundLine q_deadMany q_deadSize q_deadLeast q_deadMost q_st q_before q_kept q_isKept q_refused q_text q_ones q_said q_readTable q_least q_made q_enough q_isWanted q_column q_foundColumn q_walls q_wallMany q_chosen)) (h : X8_findEnough_J142 fu rec93 rec106 q_st q_readTable q_enough q_isWanted v3 v4 v6 v8 = some r) : mm_Wp mX8_findEnough (mm_R (P_X8_findEnough q_textSize q_cursor q_start q_token q_number q_word q_fault q_line q_foundPains q_foundLine q_deadMany q_deadSize q_deadLeast q_deadMost q_st q_before q_kept q_isKept q_refused q_text q_ones q_said q_readTable q_least q_made q_column q_foundColumn q_walls q_wallMany q_chosen r)) 0 0 142 [(0, .ref 0), (3, .int v3), (4, .int v4), (6, .int v6), (8, .int v8)] [] (W_X8 q_textSize q_cursor q_start q_token q_number q_word q_fault q_line q_foundPains q_foundLine q_deadMany q_deadSize q_deadLeast q_deadMost q_st q_before q_kept q_isKept q_refused q_text q_ones q_said q_readTable q_least q_made q_enough q_isWanted q_column q_foundColumn q_walls q_wallMany q_chosen) := by
  rw [X8_findEnough_J142] at h
  refine mm_iconst dX8_findEnough_142 ki_0 (pc' := 143) rfl ?_
  exact s_X8_findEnough_J143 (hr93 := hr93) (hr106 := hr106) h
def X8_findEnough_L106 (fu : Nat) (rec93 : (Nat → Int32) → Int32 → Option ((Nat → Int32) × (Nat → Int32))) (q_st : Nat → Int32) (q_readTable : Nat → Int32) (q_enough : Nat → Int32) (q_isWanted : Nat → Int32) (v3 : Int32) (v4 : Int32) (v6 : Int32) : Nat → Int32 → Int32 → Option ((Nat → Int32) × (Nat → Int32))
  | 0, _, _ => none
  | n + 1, v7, v8 => if v6 < v8 then (mm_ck 4608 (((64 : Int32) * (((24 : Int32) * v3) + v4)) + v6) (rec93 (upd q_enough (((64 : Int32) * (((24 : Int32) * v3) + v4)) + v6).toNatClampNeg (vp_nar .boolean v7)) (v6 + (1 : Int32)))) else (if v7 = 0 then (mm_rd q_isWanted 64 v8 fun x124 => if x124 = 0 then (X8_findEnough_J142 fu rec93 (X8_findEnough_L106 fu rec93 q_st q_readTable q_enough q_isWanted v3 v4 v6 n) q_st q_readTable q_enough q_isWanted v3 v4 v6 v8) else (if (v8 &&& (v6 ^^^ (-1 : Int32))) = 0 then (X8_findEnough_J138 fu rec93 (X8_findEnough_L106 fu rec93 q_st q_readTable q_enough q_isWanted v3 v4 v6 n) q_st q_readTable q_enough q_isWanted v3 v4 v6 v8) else (X8_findEnough_J142 fu rec93 (X8_findEnough_L106 fu rec93 q_st q_readTable q_enough q_isWanted v3 v4 v6 n) q_st q_readTable q_enough q_isWanted v3 v4 v6 v8))) else (X8_findEnough_J138 fu rec93 (X8_findEnough_L106 fu rec93 q_st q_readTable q_enough q_isWanted v3 v4 v6 n) q_st q_readTable q_enough q_isWanted v3 v4 v6 v8))
set_option maxHeartbeats 4000000 in
set_option maxRecDepth 100000 in
theorem s_X8_findEnough_L106 {fu : Nat} {q_textSize : Int32} {q_cursor : Int32} {q_start : Int32} {q_token : Int32} {q_number : Int32} {q_word : Int64} {q_fault : Int32} {q_line : Int32} {q_foundPains : Int32} {q_foundLine : Int32} {q_deadMany : Int32} {q_deadSize : Int32} {q_deadLeast : Int32} {q_deadMost : Int32} {q_st : Nat → Int32} {q_before : Nat → Int32} {q_kept : Nat → Int32} {q_isKept : Nat → Int32} {q_refused : Nat → Int32} {q_text : Nat → Int32} {q_ones : Nat → Int32} {q_said : Nat → Int32} {q_readTable : Nat → Int32} {q_least : Nat → Int32} {q_made : Nat → Int32} {q_enough : Nat → Int32} {q_isWanted : Nat → Int32} {q_column : Nat → Int32} {q_foundColumn : Nat → Int32} {q_walls : Nat → Int64} {q_wallMany : Nat → Int32} {q_chosen : Nat → Int32} {r : (Nat → Int32) × (Nat → Int32)} {rec93 : (Nat → Int32) → Int32 → Option ((Nat → Int32) × (Nat → Int32))} {v3 : Int32} {v4 : Int32} {v6 : Int32} (hr93 : ∀ (z_q_enough : Nat → Int32) (y6 : Int32), rec93 z_q_enough y6 = some r → mm_Wp mX8_findEnough (mm_R (P_X8_findEnough q_textSize q_cursor q_start q_token q_number q_word q_fault q_line q_foundPains q_foundLine q_deadMany q_deadSize q_deadLeast q_deadMost q_st q_before q_kept q_isKept q_refused q_text q_ones q_said q_readTable q_least q_made q_column q_foundColumn q_walls q_wallMany q_chosen r)) 0 0 93 [(0, .ref 0), (3, .int v3), (4, .int v4), (6, .int y6)] [] (W_X8 q_textSize q_cursor q_start q_token q_number q_word q_fault q_line q_foundPains q_foundLine q_deadMany q_deadSize q_deadLeast q_deadMost q_st q_before q_kept q_isKept q_refused q_text q_ones q_said q_readTable q_least q_made z_q_enough q_isWanted q_column q_foundColumn q_walls q_wallMany q_chosen)) : ∀ (n : Nat) (v7 : Int32) (v8 : Int32), X8_findEnough_L106 fu rec93 q_st q_readTable q_enough q_isWanted v3 v4 v6 n v7 v8 = some r → mm_Wp mX8_findEnough (mm_R (P_X8_findEnough q_textSize q_cursor q_start q_token q_number q_word q_fault q_line q_foundPains q_foundLine q_deadMany q_deadSize q_deadLeast q_deadMost q_st q_before q_kept q_isKept q_refused q_text q_ones q_said q_readTable q_least q_made q_column q_foundColumn q_walls q_wallMany q_chosen r)) 0 0 106 [(0, .ref 0), (3, .int v3), (4, .int v4), (6, .int v6), (7, .int v7), (8, .int v8)] [] (W_X8 q_textSize q_cursor q_start q_token q_number q_word q_fault q_line q_foundPains q_foundLine q_deadMany q_deadSize q_deadLeast q_deadMost q_st q_before q_kept q_isKept q_refused q_text q_ones q_said q_readTable q_least q_made q_enough q_isWanted q_column q_foundColumn q_walls q_wallMany q_chosen) := by
  intro n
  induction n with
  | zero =>
    intro v7 v8 h
    rw [X8_findEnough_L106] at h
    cases h
  | succ n hr106 =>
    intro v7 v8 h
    rw [X8_findEnough_L106] at h
    refine mm_iload 5 dX8_findEnough_106 rfl (pc' := 108) rfl ?_
    refine mm_iload 3 dX8_findEnough_108 rfl (pc' := 110) rfl ?_
    refine mm_icmp_gt (tgt := 151) dX8_findEnough_110 (by decide) (pc' := 113) rfl (fun c => ?_) (fun c => ?_)
    · replace h := mm_it h c
      clear c
      refine mm_aload_n 0 dX8_findEnough_151 rfl rfl (pc' := 152) rfl ?_
      refine mm_getf fG_X8_44 dX8_findEnough_152 rfl rfl (pc' := 155) rfl ?_
      refine mm_bipush dX8_findEnough_155 kb_64 (pc' := 157) rfl ?_
      refine mm_bipush dX8_findEnough_157 kb_24 (pc' := 159) rfl ?_
      refine mm_iload_n 1 dX8_findEnough_159 rfl rfl (pc' := 160) rfl ?_
      refine mm_imul dX8_findEnough_160 (pc' := 161) rfl ?_
      refine mm_iload 2 dX8_findEnough_161 rfl (pc' := 163) rfl ?_
      refine mm_iadd dX8_findEnough_163 (pc' := 164) rfl ?_
      refine mm_imul dX8_findEnough_164 (pc' := 165) rfl ?_
      refine mm_iload 3 dX8_findEnough_165 rfl (pc' := 167) rfl ?_
      refine mm_iadd dX8_findEnough_167 (pc' := 168) rfl ?_
      refine mm_iload 4 dX8_findEnough_168 rfl (pc' := 170) rfl ?_
      obtain ⟨c170, h⟩ := mm_ck_of h
      refine mm_zast dX8_findEnough_170 rfl c170 rfl (ws' := (W_X8 q_textSize q_cursor q_start q_token q_number q_word q_fault q_line q_foundPains q_foundLine q_deadMany q_deadSize q_deadLeast q_deadMost q_st q_before q_kept q_isKept q_refused q_text q_ones q_said q_readTable q_least q_made (upd q_enough (((64 : Int32) * (((24 : Int32) * v3) + v4)) + v6).toNatClampNeg (vp_nar .boolean v7)) q_isWanted q_column q_foundColumn q_walls q_wallMany q_chosen)) rfl (pc' := 171) rfl ?_
      clear c170
      refine mm_iinc 3 dX8_findEnough_171 rfl ki_1 (by decide) (l' := [(6, .int (v6 + (1 : Int32))), (0, .ref 0), (3, .int v3), (4, .int v4), (7, .int v7), (8, .int v8)]) rfl (pc' := 174) rfl ?_
      refine mm_goto (tgt := 93) dX8_findEnough_174 (by decide) ?_
      exact mm_sub [1, 2, 3, 0] rfl (hr93 _ _ h)
    · replace h := mm_if h c
      clear c
      refine mm_iload 4 dX8_findEnough_113 rfl (pc' := 115) rfl ?_
      refine mm_if_ne (tgt := 138) dX8_findEnough_115 (by decide) (pc' := 118) rfl (fun c => ?_) (fun c => ?_)
      · replace h := mm_if h c
        clear c
        exact mm_sub [0, 1, 2, 3, 5] rfl (s_X8_findEnough_J138 (hr93 := hr93) (hr106 := hr106) h)
      · replace h := mm_it h c
        clear c
        refine mm_aload_n 0 dX8_findEnough_118 rfl rfl (pc' := 119) rfl ?_
        refine mm_getf fG_X8_47 dX8_findEnough_119 rfl rfl (pc' := 122) rfl ?_
        refine mm_iload 5 dX8_findEnough_122 rfl (pc' := 124) rfl ?_
        obtain ⟨x124, c124, e124, h⟩ := mm_rd_of h
        refine mm_zald dX8_findEnough_124 rfl c124 e124 (pc' := 125) rfl ?_
        clear c124 e124
        refine mm_if_eq (tgt := 142) dX8_findEnough_125 (by decide) (pc' := 128) rfl (fun c => ?_) (fun c => ?_)
        · replace h := mm_it h c
          clear c
          exact mm_sub [0, 1, 2, 3, 5] rfl (s_X8_findEnough_J142 (hr93 := hr93) (hr106 := hr106) h)
        · replace h := mm_if h c
          clear c
          refine mm_iload 5 dX8_findEnough_128 rfl (pc' := 130) rfl ?_
          refine mm_iload 3 dX8_findEnough_130 rfl (pc' := 132) rfl ?_
          refine mm_iconst dX8_findEnough_132 ki_m1 (pc' := 133) rfl ?_
          refine mm_ixor dX8_findEnough_133 (pc' := 134) rfl ?_
          refine mm_iand dX8_findEnough_134 (pc' := 135) rfl ?_
          refine mm_if_ne (tgt := 142) dX8_findEnough_135 (by decide) (pc' := 138) rfl (fun c => ?_) (fun c => ?_)
          · replace h := mm_if h c
            clear c
            exact mm_sub [0, 1, 2, 3, 5] rfl (s_X8_findEnough_J142 (hr93 := hr93) (hr106 := hr106) h)
          · replace h := mm_it h c
            clear c
            exact mm_sub [0, 1, 2, 3, 5] rfl (s_X8_findEnough_J138 (hr93 := hr93) (hr106 := hr106) h)
def X8_findEnough_L93 (fu : Nat)  (q_st : Nat → Int32) (q_readTable : Nat → Int32) (q_isWanted : Nat → Int32) (v3 : Int32) (v4 : Int32) : Nat → (Nat → Int32) → Int32 → Option ((Nat → Int32) × (Nat → Int32))
  | 0, _, _ => none
  | n + 1, q_enough, v6 => if (64 : Int32) ≤ v6 then (some (q_enough, q_isWanted)) else (X8_findEnough_L106 fu (X8_findEnough_L93 fu q_st q_readTable q_isWanted v3 v4 n) q_st q_readTable q_enough q_isWanted v3 v4 v6 fu (0 : Int32) (0 : Int32))
set_option maxHeartbeats 4000000 in
set_option maxRecDepth 100000 in
theorem s_X8_findEnough_L93 {fu : Nat} {q_textSize : Int32} {q_cursor : Int32} {q_start : Int32} {q_token : Int32} {q_number : Int32} {q_word : Int64} {q_fault : Int32} {q_line : Int32} {q_foundPains : Int32} {q_foundLine : Int32} {q_deadMany : Int32} {q_deadSize : Int32} {q_deadLeast : Int32} {q_deadMost : Int32} {q_st : Nat → Int32} {q_before : Nat → Int32} {q_kept : Nat → Int32} {q_isKept : Nat → Int32} {q_refused : Nat → Int32} {q_text : Nat → Int32} {q_ones : Nat → Int32} {q_said : Nat → Int32} {q_readTable : Nat → Int32} {q_least : Nat → Int32} {q_made : Nat → Int32} {q_isWanted : Nat → Int32} {q_column : Nat → Int32} {q_foundColumn : Nat → Int32} {q_walls : Nat → Int64} {q_wallMany : Nat → Int32} {q_chosen : Nat → Int32} {r : (Nat → Int32) × (Nat → Int32)} {v3 : Int32} {v4 : Int32} : ∀ (n : Nat) (q_enough : Nat → Int32) (v6 : Int32), X8_findEnough_L93 fu q_st q_readTable q_isWanted v3 v4 n q_enough v6 = some r → mm_Wp mX8_findEnough (mm_R (P_X8_findEnough q_textSize q_cursor q_start q_token q_number q_word q_fault q_line q_foundPains q_foundLine q_deadMany q_deadSize q_deadLeast q_deadMost q_st q_before q_kept q_isKept q_refused q_text q_ones q_said q_readTable q_least q_made q_column q_foundColumn q_walls q_wallMany q_chosen r)) 0 0 93 [(0, .ref 0), (3, .int v3), (4, .int v4), (6, .int v6)] [] (W_X8 q_textSize q_cursor q_start q_token q_number q_word q_fault q_line q_foundPains q_foundLine q_deadMany q_deadSize q_deadLeast q_deadMost q_st q_before q_kept q_isKept q_refused q_text q_ones q_said q_readTable q_least q_made q_enough q_isWanted q_column q_foundColumn q_walls q_wallMany q_chosen) := by
  intro n
  induction n with
  | zero =>
    intro q_enough v6 h
    rw [X8_findEnough_L93] at h
    cases h
  | succ n hr93 =>
    intro q_enough v6 h
    rw [X8_findEnough_L93] at h
    refine mm_iload 3 dX8_findEnough_93 rfl (pc' := 95) rfl ?_
    refine mm_bipush dX8_findEnough_95 kb_64 (pc' := 97) rfl ?_
    refine mm_icmp_ge (tgt := 177) dX8_findEnough_97 (by decide) (pc' := 100) rfl (fun c => ?_) (fun c => ?_)
    · replace h := mm_it h c
      clear c
      have h9 := Option.some.inj h
      subst h9
      exact mm_vret rfl dX8_findEnough_177 ⟨rfl, rfl⟩
    · replace h := mm_if h c
      clear c
      refine mm_iconst dX8_findEnough_100 ki_0 (pc' := 101) rfl ?_
      refine mm_istore dX8_findEnough_101 (by decide) (l' := [(7, .int (0 : Int32)), (0, .ref 0), (3, .int v3), (4, .int v4), (6, .int v6)]) rfl (pc' := 103) rfl ?_
      refine mm_iconst dX8_findEnough_103 ki_0 (pc' := 104) rfl ?_
      refine mm_istore dX8_findEnough_104 (by decide) (l' := [(8, .int (0 : Int32)), (7, .int (0 : Int32)), (0, .ref 0), (3, .int v3), (4, .int v4), (6, .int v6)]) rfl (pc' := 106) rfl ?_
      exact mm_sub [2, 3, 4, 5, 1, 0] rfl (s_X8_findEnough_L106 (hr93 := hr93) _ _ _ h)
def X8_findEnough_J84 (fu : Nat) (rec34 : (Nat → Int32) → Int32 → Option ((Nat → Int32) × (Nat → Int32))) (q_st : Nat → Int32) (q_readTable : Nat → Int32) (q_enough : Nat → Int32) (q_isWanted : Nat → Int32) (v1 : Int32) (v2 : Int32) (v3 : Int32) (v4 : Int32) (v5 : Int32) (v6 : Int32)  : Option ((Nat → Int32) × (Nat → Int32)) := rec34 q_isWanted (v6 + (1 : Int32))
set_option maxHeartbeats 4000000 in
set_option maxRecDepth 100000 in
theorem s_X8_findEnough_J84 {fu : Nat} {q_textSize : Int32} {q_cursor : Int32} {q_start : Int32} {q_token : Int32} {q_number : Int32} {q_word : Int64} {q_fault : Int32} {q_line : Int32} {q_foundPains : Int32} {q_foundLine : Int32} {q_deadMany : Int32} {q_deadSize : Int32} {q_deadLeast : Int32} {q_deadMost : Int32} {q_st : Nat → Int32} {q_before : Nat → Int32} {q_kept : Nat → Int32} {q_isKept : Nat → Int32} {q_refused : Nat → Int32} {q_text : Nat → Int32} {q_ones : Nat → Int32} {q_said : Nat → Int32} {q_readTable : Nat → Int32} {q_least : Nat → Int32} {q_made : Nat → Int32} {q_enough : Nat → Int32} {q_isWanted : Nat → Int32} {q_column : Nat → Int32} {q_foundColumn : Nat → Int32} {q_walls : Nat → Int64} {q_wallMany : Nat → Int32} {q_chosen : Nat → Int32} {r : (Nat → Int32) × (Nat → Int32)} {rec34 : (Nat → Int32) → Int32 → Option ((Nat → Int32) × (Nat → Int32))} {v1 : Int32} {v2 : Int32} {v3 : Int32} {v4 : Int32} {v5 : Int32} {v6 : Int32} (hr34 : ∀ (z_q_isWanted : Nat → Int32) (y6 : Int32), rec34 z_q_isWanted y6 = some r → mm_Wp mX8_findEnough (mm_R (P_X8_findEnough q_textSize q_cursor q_start q_token q_number q_word q_fault q_line q_foundPains q_foundLine q_deadMany q_deadSize q_deadLeast q_deadMost q_st q_before q_kept q_isKept q_refused q_text q_ones q_said q_readTable q_least q_made q_column q_foundColumn q_walls q_wallMany q_chosen r)) 0 0 34 [(0, .ref 0), (1, .int v1), (2, .int v2), (3, .int v3), (4, .int v4), (5, .int v5), (6, .int y6)] [] (W_X8 q_textSize q_cursor q_start q_token q_number q_word q_fault q_line q_foundPains q_foundLine q_deadMany q_deadSize q_deadLeast q_deadMost q_st q_before q_kept q_isKept q_refused q_text q_ones q_said q_readTable q_least q_made q_enough z_q_isWanted q_column q_foundColumn q_walls q_wallMany q_chosen)) (h : X8_findEnough_J84 fu rec34 q_st q_readTable q_enough q_isWanted v1 v2 v3 v4 v5 v6 = some r) : mm_Wp mX8_findEnough (mm_R (P_X8_findEnough q_textSize q_cursor q_start q_token q_number q_word q_fault q_line q_foundPains q_foundLine q_deadMany q_deadSize q_deadLeast q_deadMost q_st q_before q_kept q_isKept q_refused q_text q_ones q_said q_readTable q_least q_made q_column q_foundColumn q_walls q_wallMany q_chosen r)) 0 0 84 [(0, .ref 0), (1, .int v1), (2, .int v2), (3, .int v3), (4, .int v4), (5, .int v5), (6, .int v6)] [] (W_X8 q_textSize q_cursor q_start q_token q_number q_word q_fault q_line q_foundPains q_foundLine q_deadMany q_deadSize q_deadLeast q_deadMost q_st q_before q_kept q_isKept q_refused q_text q_ones q_said q_readTable q_least q_made q_enough q_isWanted q_column q_foundColumn q_walls q_wallMany q_chosen) := by
  rw [X8_findEnough_J84] at h
  refine mm_iinc 6 dX8_findEnough_84 rfl ki_1 (by decide) (l' := [(6, .int (v6 + (1 : Int32))), (0, .ref 0), (1, .int v1), (2, .int v2), (3, .int v3), (4, .int v4), (5, .int v5)]) rfl (pc' := 87) rfl ?_
  refine mm_goto (tgt := 34) dX8_findEnough_87 (by decide) ?_
  exact mm_sub [1, 2, 3, 4, 5, 6, 0] rfl (hr34 _ _ h)
def X8_findEnough_J68 (fu : Nat) (rec34 : (Nat → Int32) → Int32 → Option ((Nat → Int32) × (Nat → Int32))) (q_st : Nat → Int32) (q_readTable : Nat → Int32) (q_enough : Nat → Int32) (q_isWanted : Nat → Int32) (v1 : Int32) (v2 : Int32) (v3 : Int32) (v4 : Int32) (v5 : Int32) (v6 : Int32) (s0 : Int32) : Option ((Nat → Int32) × (Nat → Int32)) := if s0 = (-1 : Int32) then (X8_findEnough_J84 fu rec34 q_st q_readTable q_enough q_isWanted v1 v2 v3 v4 v5 v6) else (mm_ck 64 s0 (X8_findEnough_J84 fu rec34 q_st q_readTable q_enough (upd q_isWanted s0.toNatClampNeg (vp_nar .boolean (1 : Int32))) v1 v2 v3 v4 v5 v6))
set_option maxHeartbeats 4000000 in
set_option maxRecDepth 100000 in
theorem s_X8_findEnough_J68 {fu : Nat} {q_textSize : Int32} {q_cursor : Int32} {q_start : Int32} {q_token : Int32} {q_number : Int32} {q_word : Int64} {q_fault : Int32} {q_line : Int32} {q_foundPains : Int32} {q_foundLine : Int32} {q_deadMany : Int32} {q_deadSize : Int32} {q_deadLeast : Int32} {q_deadMost : Int32} {q_st : Nat → Int32} {q_before : Nat → Int32} {q_kept : Nat → Int32} {q_isKept : Nat → Int32} {q_refused : Nat → Int32} {q_text : Nat → Int32} {q_ones : Nat → Int32} {q_said : Nat → Int32} {q_readTable : Nat → Int32} {q_least : Nat → Int32} {q_made : Nat → Int32} {q_enough : Nat → Int32} {q_isWanted : Nat → Int32} {q_column : Nat → Int32} {q_foundColumn : Nat → Int32} {q_walls : Nat → Int64} {q_wallMany : Nat → Int32} {q_chosen : Nat → Int32} {r : (Nat → Int32) × (Nat → Int32)} {rec34 : (Nat → Int32) → Int32 → Option ((Nat → Int32) × (Nat → Int32))} {v1 : Int32} {v2 : Int32} {v3 : Int32} {v4 : Int32} {v5 : Int32} {v6 : Int32} {s0 : Int32} (hr34 : ∀ (z_q_isWanted : Nat → Int32) (y6 : Int32), rec34 z_q_isWanted y6 = some r → mm_Wp mX8_findEnough (mm_R (P_X8_findEnough q_textSize q_cursor q_start q_token q_number q_word q_fault q_line q_foundPains q_foundLine q_deadMany q_deadSize q_deadLeast q_deadMost q_st q_before q_kept q_isKept q_refused q_text q_ones q_said q_readTable q_least q_made q_column q_foundColumn q_walls q_wallMany q_chosen r)) 0 0 34 [(0, .ref 0), (1, .int v1), (2, .int v2), (3, .int v3), (4, .int v4), (5, .int v5), (6, .int y6)] [] (W_X8 q_textSize q_cursor q_start q_token q_number q_word q_fault q_line q_foundPains q_foundLine q_deadMany q_deadSize q_deadLeast q_deadMost q_st q_before q_kept q_isKept q_refused q_text q_ones q_said q_readTable q_least q_made q_enough z_q_isWanted q_column q_foundColumn q_walls q_wallMany q_chosen)) (h : X8_findEnough_J68 fu rec34 q_st q_readTable q_enough q_isWanted v1 v2 v3 v4 v5 v6 s0 = some r) : mm_Wp mX8_findEnough (mm_R (P_X8_findEnough q_textSize q_cursor q_start q_token q_number q_word q_fault q_line q_foundPains q_foundLine q_deadMany q_deadSize q_deadLeast q_deadMost q_st q_before q_kept q_isKept q_refused q_text q_ones q_said q_readTable q_least q_made q_column q_foundColumn q_walls q_wallMany q_chosen r)) 0 0 68 [(0, .ref 0), (1, .int v1), (2, .int v2), (3, .int v3), (4, .int v4), (5, .int v5), (6, .int v6)] [.int s0] (W_X8 q_textSize q_cursor q_start q_token q_number q_word q_fault q_line q_foundPains q_foundLine q_deadMany q_deadSize q_deadLeast q_deadMost q_st q_before q_kept q_isKept q_refused q_text q_ones q_said q_readTable q_least q_made q_enough q_isWanted q_column q_foundColumn q_walls q_wallMany q_chosen) := by
  rw [X8_findEnough_J68] at h
  refine mm_istore dX8_findEnough_68 (by decide) (l' := [(7, .int s0), (0, .ref 0), (1, .int v1), (2, .int v2), (3, .int v3), (4, .int v4), (5, .int v5), (6, .int v6)]) rfl (pc' := 70) rfl ?_
  refine mm_iload 0 dX8_findEnough_70 rfl (pc' := 72) rfl ?_
  refine mm_iconst dX8_findEnough_72 ki_m1 (pc' := 73) rfl ?_
  refine mm_icmp_eq (tgt := 84) dX8_findEnough_73 (by decide) (pc' := 76) rfl (fun c => ?_) (fun c => ?_)
  · replace h := mm_it h c
    clear c
    exact mm_sub [1, 2, 3, 4, 5, 6, 7] rfl (s_X8_findEnough_J84 (hr34 := hr34) h)
  · replace h := mm_if h c
    clear c
    refine mm_aload_n 1 dX8_findEnough_76 rfl rfl (pc' := 77) rfl ?_
    refine mm_getf fG_X8_47 dX8_findEnough_77 rfl rfl (pc' := 80) rfl ?_
    refine mm_iload 0 dX8_findEnough_80 rfl (pc' := 82) rfl ?_
    refine mm_iconst dX8_findEnough_82 ki_1 (pc' := 83) rfl ?_
    obtain ⟨c83, h⟩ := mm_ck_of h
    refine mm_zast dX8_findEnough_83 rfl c83 rfl (ws' := (W_X8 q_textSize q_cursor q_start q_token q_number q_word q_fault q_line q_foundPains q_foundLine q_deadMany q_deadSize q_deadLeast q_deadMost q_st q_before q_kept q_isKept q_refused q_text q_ones q_said q_readTable q_least q_made q_enough (upd q_isWanted s0.toNatClampNeg (vp_nar .boolean (1 : Int32))) q_column q_foundColumn q_walls q_wallMany q_chosen)) rfl (pc' := 84) rfl ?_
    clear c83
    exact mm_sub [1, 2, 3, 4, 5, 6, 7] rfl (s_X8_findEnough_J84 (hr34 := hr34) h)
def X8_findEnough_L34 (fu : Nat)  (q_st : Nat → Int32) (q_readTable : Nat → Int32) (q_enough : Nat → Int32) (v1 : Int32) (v2 : Int32) (v3 : Int32) (v4 : Int32) (v5 : Int32) : Nat → (Nat → Int32) → Int32 → Option ((Nat → Int32) × (Nat → Int32))
  | 0, _, _ => none
  | n + 1, q_isWanted, v6 => if (4096 : Int32) ≤ v6 then (X8_findEnough_L93 fu q_st q_readTable q_isWanted v3 v4 fu q_enough (0 : Int32)) else (mm_rd q_readTable 4096 v6 fun x48 => if x48 = v5 then ((f_X8_menOf fu q_st v1 v2 v4 v6).bind fun t61 => X8_findEnough_J68 fu (X8_findEnough_L34 fu q_st q_readTable q_enough v1 v2 v3 v4 v5 n) q_st q_readTable q_enough q_isWanted v1 v2 v3 v4 v5 v6 t61) else (X8_findEnough_J68 fu (X8_findEnough_L34 fu q_st q_readTable q_enough v1 v2 v3 v4 v5 n) q_st q_readTable q_enough q_isWanted v1 v2 v3 v4 v5 v6 (-1 : Int32)))
set_option maxHeartbeats 4000000 in
set_option maxRecDepth 100000 in
theorem s_X8_findEnough_L34 {fu : Nat} {q_textSize : Int32} {q_cursor : Int32} {q_start : Int32} {q_token : Int32} {q_number : Int32} {q_word : Int64} {q_fault : Int32} {q_line : Int32} {q_foundPains : Int32} {q_foundLine : Int32} {q_deadMany : Int32} {q_deadSize : Int32} {q_deadLeast : Int32} {q_deadMost : Int32} {q_st : Nat → Int32} {q_before : Nat → Int32} {q_kept : Nat → Int32} {q_isKept : Nat → Int32} {q_refused : Nat → Int32} {q_text : Nat → Int32} {q_ones : Nat → Int32} {q_said : Nat → Int32} {q_readTable : Nat → Int32} {q_least : Nat → Int32} {q_made : Nat → Int32} {q_enough : Nat → Int32} {q_column : Nat → Int32} {q_foundColumn : Nat → Int32} {q_walls : Nat → Int64} {q_wallMany : Nat → Int32} {q_chosen : Nat → Int32} {r : (Nat → Int32) × (Nat → Int32)} {v1 : Int32} {v2 : Int32} {v3 : Int32} {v4 : Int32} {v5 : Int32} : ∀ (n : Nat) (q_isWanted : Nat → Int32) (v6 : Int32), X8_findEnough_L34 fu q_st q_readTable q_enough v1 v2 v3 v4 v5 n q_isWanted v6 = some r → mm_Wp mX8_findEnough (mm_R (P_X8_findEnough q_textSize q_cursor q_start q_token q_number q_word q_fault q_line q_foundPains q_foundLine q_deadMany q_deadSize q_deadLeast q_deadMost q_st q_before q_kept q_isKept q_refused q_text q_ones q_said q_readTable q_least q_made q_column q_foundColumn q_walls q_wallMany q_chosen r)) 0 0 34 [(0, .ref 0), (1, .int v1), (2, .int v2), (3, .int v3), (4, .int v4), (5, .int v5), (6, .int v6)] [] (W_X8 q_textSize q_cursor q_start q_token q_number q_word q_fault q_line q_foundPains q_foundLine q_deadMany q_deadSize q_deadLeast q_deadMost q_st q_before q_kept q_isKept q_refused q_text q_ones q_said q_readTable q_least q_made q_enough q_isWanted q_column q_foundColumn q_walls q_wallMany q_chosen) := by
  intro n
  induction n with
  | zero =>
    intro q_isWanted v6 h
    rw [X8_findEnough_L34] at h
    cases h
  | succ n hr34 =>
    intro q_isWanted v6 h
    rw [X8_findEnough_L34] at h
    refine mm_iload 6 dX8_findEnough_34 rfl (pc' := 36) rfl ?_
    refine mm_sipush dX8_findEnough_36 ks_4096 (pc' := 39) rfl ?_
    refine mm_icmp_ge (tgt := 90) dX8_findEnough_39 (by decide) (pc' := 42) rfl (fun c => ?_) (fun c => ?_)
    · replace h := mm_it h c
      clear c
      refine mm_iconst dX8_findEnough_90 ki_0 (pc' := 91) rfl ?_
      refine mm_istore dX8_findEnough_91 (by decide) (l' := [(6, .int (0 : Int32)), (0, .ref 0), (1, .int v1), (2, .int v2), (3, .int v3), (4, .int v4), (5, .int v5)]) rfl (pc' := 93) rfl ?_
      exact mm_sub [1, 4, 5, 0] rfl (s_X8_findEnough_L93  _ _ _ h)
    · replace h := mm_if h c
      clear c
      refine mm_aload_n 0 dX8_findEnough_42 rfl rfl (pc' := 43) rfl ?_
      refine mm_getf fG_X8_35 dX8_findEnough_43 rfl rfl (pc' := 46) rfl ?_
      refine mm_iload 6 dX8_findEnough_46 rfl (pc' := 48) rfl ?_
      obtain ⟨x48, c48, e48, h⟩ := mm_rd_of h
      refine mm_iald dX8_findEnough_48 rfl c48 e48 (pc' := 49) rfl ?_
      clear c48 e48
      refine mm_iload 5 dX8_findEnough_49 rfl (pc' := 51) rfl ?_
      refine mm_icmp_ne (tgt := 67) dX8_findEnough_51 (by decide) (pc' := 54) rfl (fun c => ?_) (fun c => ?_)
      · replace h := mm_if h c
        clear c
        refine mm_iconst dX8_findEnough_67 ki_m1 (pc' := 68) rfl ?_
        exact s_X8_findEnough_J68 (hr34 := hr34) h
      · replace h := mm_it h c
        clear c
        refine mm_aload_n 0 dX8_findEnough_54 rfl rfl (pc' := 55) rfl ?_
        refine mm_iload_n 1 dX8_findEnough_55 rfl rfl (pc' := 56) rfl ?_
        refine mm_iload_n 2 dX8_findEnough_56 rfl rfl (pc' := 57) rfl ?_
        refine mm_iload 4 dX8_findEnough_57 rfl (pc' := 59) rfl ?_
        refine mm_iload 6 dX8_findEnough_59 rfl (pc' := 61) rfl ?_
        obtain ⟨t61, h61, h⟩ := mm_bd h
        refine mm_call0 (As := [.int v1, .int v2, .int v4, .int v6]) (rest := []) cV_X8_256 (ok_X8_menOf h61) ⟨rfl, rfl, Nat.le_of_ble_eq_true rfl, Nat.le_of_ble_eq_true rfl⟩ dX8_findEnough_61 rfl rfl rfl rfl (by rintro _ _ ⟨-, rfl⟩; rfl) (Nat.le_of_ble_eq_true rfl) ⟨Nat.le_of_ble_eq_true rfl, Nat.le_of_ble_eq_true rfl⟩ (pc' := 64) rfl ?_
        rintro rv w ⟨rfl, rfl⟩
        show mm_Wp _ _ _ _ 64 [(0, .ref 0), (1, .int v1), (2, .int v2), (3, .int v3), (4, .int v4), (5, .int v5), (6, .int v6)] [.int t61] (W_X8 q_textSize q_cursor q_start q_token q_number q_word q_fault q_line q_foundPains q_foundLine q_deadMany q_deadSize q_deadLeast q_deadMost q_st q_before q_kept q_isKept q_refused q_text q_ones q_said q_readTable q_least q_made q_enough q_isWanted q_column q_foundColumn q_walls q_wallMany q_chosen)
        clear h61
        refine mm_goto (tgt := 68) dX8_findEnough_64 (by decide) ?_
        exact s_X8_findEnough_J68 (hr34 := hr34) h
def X8_findEnough_L10 (fu : Nat)  (q_st : Nat → Int32) (q_readTable : Nat → Int32) (q_enough : Nat → Int32) (v1 : Int32) (v2 : Int32) (v3 : Int32) (v4 : Int32) (v5 : Int32) : Nat → (Nat → Int32) → Int32 → Option ((Nat → Int32) × (Nat → Int32))
  | 0, _, _ => none
  | n + 1, q_isWanted, v6 => if (64 : Int32) ≤ v6 then (X8_findEnough_L34 fu q_st q_readTable q_enough v1 v2 v3 v4 v5 fu q_isWanted (0 : Int32)) else (mm_ck 64 v6 ((X8_findEnough_L10 fu q_st q_readTable q_enough v1 v2 v3 v4 v5 n) (upd q_isWanted v6.toNatClampNeg (vp_nar .boolean (0 : Int32))) (v6 + (1 : Int32))))
set_option maxHeartbeats 4000000 in
set_option maxRecDepth 100000 in
theorem s_X8_findEnough_L10 {fu : Nat} {q_textSize : Int32} {q_cursor : Int32} {q_start : Int32} {q_token : Int32} {q_number : Int32} {q_word : Int64} {q_fault : Int32} {q_line : Int32} {q_foundPains : Int32} {q_foundLine : Int32} {q_deadMany : Int32} {q_deadSize : Int32} {q_deadLeast : Int32} {q_deadMost : Int32} {q_st : Nat → Int32} {q_before : Nat → Int32} {q_kept : Nat → Int32} {q_isKept : Nat → Int32} {q_refused : Nat → Int32} {q_text : Nat → Int32} {q_ones : Nat → Int32} {q_said : Nat → Int32} {q_readTable : Nat → Int32} {q_least : Nat → Int32} {q_made : Nat → Int32} {q_enough : Nat → Int32} {q_column : Nat → Int32} {q_foundColumn : Nat → Int32} {q_walls : Nat → Int64} {q_wallMany : Nat → Int32} {q_chosen : Nat → Int32} {r : (Nat → Int32) × (Nat → Int32)} {v1 : Int32} {v2 : Int32} {v3 : Int32} {v4 : Int32} {v5 : Int32} : ∀ (n : Nat) (q_isWanted : Nat → Int32) (v6 : Int32), X8_findEnough_L10 fu q_st q_readTable q_enough v1 v2 v3 v4 v5 n q_isWanted v6 = some r → mm_Wp mX8_findEnough (mm_R (P_X8_findEnough q_textSize q_cursor q_start q_token q_number q_word q_fault q_line q_foundPains q_foundLine q_deadMany q_deadSize q_deadLeast q_deadMost q_st q_before q_kept q_isKept q_refused q_text q_ones q_said q_readTable q_least q_made q_column q_foundColumn q_walls q_wallMany q_chosen r)) 0 0 10 [(0, .ref 0), (1, .int v1), (2, .int v2), (3, .int v3), (4, .int v4), (5, .int v5), (6, .int v6)] [] (W_X8 q_textSize q_cursor q_start q_token q_number q_word q_fault q_line q_foundPains q_foundLine q_deadMany q_deadSize q_deadLeast q_deadMost q_st q_before q_kept q_isKept q_refused q_text q_ones q_said q_readTable q_least q_made q_enough q_isWanted q_column q_foundColumn q_walls q_wallMany q_chosen) := by
  intro n
  induction n with
  | zero =>
    intro q_isWanted v6 h
    rw [X8_findEnough_L10] at h
    cases h
  | succ n hr10 =>
    intro q_isWanted v6 h
    rw [X8_findEnough_L10] at h
    refine mm_iload 6 dX8_findEnough_10 rfl (pc' := 12) rfl ?_
    refine mm_bipush dX8_findEnough_12 kb_64 (pc' := 14) rfl ?_
    refine mm_icmp_ge (tgt := 31) dX8_findEnough_14 (by decide) (pc' := 17) rfl (fun c => ?_) (fun c => ?_)
    · replace h := mm_it h c
      clear c
      refine mm_iconst dX8_findEnough_31 ki_0 (pc' := 32) rfl ?_
      refine mm_istore dX8_findEnough_32 (by decide) (l' := [(6, .int (0 : Int32)), (0, .ref 0), (1, .int v1), (2, .int v2), (3, .int v3), (4, .int v4), (5, .int v5)]) rfl (pc' := 34) rfl ?_
      exact mm_sub [1, 2, 3, 4, 5, 6, 0] rfl (s_X8_findEnough_L34  _ _ _ h)
    · replace h := mm_if h c
      clear c
      refine mm_aload_n 0 dX8_findEnough_17 rfl rfl (pc' := 18) rfl ?_
      refine mm_getf fG_X8_47 dX8_findEnough_18 rfl rfl (pc' := 21) rfl ?_
      refine mm_iload 6 dX8_findEnough_21 rfl (pc' := 23) rfl ?_
      refine mm_iconst dX8_findEnough_23 ki_0 (pc' := 24) rfl ?_
      obtain ⟨c24, h⟩ := mm_ck_of h
      refine mm_zast dX8_findEnough_24 rfl c24 rfl (ws' := (W_X8 q_textSize q_cursor q_start q_token q_number q_word q_fault q_line q_foundPains q_foundLine q_deadMany q_deadSize q_deadLeast q_deadMost q_st q_before q_kept q_isKept q_refused q_text q_ones q_said q_readTable q_least q_made q_enough (upd q_isWanted v6.toNatClampNeg (vp_nar .boolean (0 : Int32))) q_column q_foundColumn q_walls q_wallMany q_chosen)) rfl (pc' := 25) rfl ?_
      clear c24
      refine mm_iinc 6 dX8_findEnough_25 rfl ki_1 (by decide) (l' := [(6, .int (v6 + (1 : Int32))), (0, .ref 0), (1, .int v1), (2, .int v2), (3, .int v3), (4, .int v4), (5, .int v5)]) rfl (pc' := 28) rfl ?_
      refine mm_goto (tgt := 10) dX8_findEnough_28 (by decide) ?_
      exact mm_sub [1, 2, 3, 4, 5, 6, 0] rfl (hr10 _ _ h)
def f_X8_findEnough (fu : Nat) (q_st : Nat → Int32) (q_readTable : Nat → Int32) (q_enough : Nat → Int32) (q_isWanted : Nat → Int32) (v1 : Int32) (v2 : Int32) (v3 : Int32) (v4 : Int32) : Option ((Nat → Int32) × (Nat → Int32)) := (f_X8_letterOf fu v1 v3).bind fun t2 => X8_findEnough_L10 fu q_st q_readTable q_enough v1 v2 v3 v4 t2 fu q_isWanted (0 : Int32)
set_option maxHeartbeats 4000000 in
set_option maxRecDepth 100000 in
theorem ok_X8_findEnough {fu : Nat} {q_textSize : Int32} {q_cursor : Int32} {q_start : Int32} {q_token : Int32} {q_number : Int32} {q_word : Int64} {q_fault : Int32} {q_line : Int32} {q_foundPains : Int32} {q_foundLine : Int32} {q_deadMany : Int32} {q_deadSize : Int32} {q_deadLeast : Int32} {q_deadMost : Int32} {q_st : Nat → Int32} {q_before : Nat → Int32} {q_kept : Nat → Int32} {q_isKept : Nat → Int32} {q_refused : Nat → Int32} {q_text : Nat → Int32} {q_ones : Nat → Int32} {q_said : Nat → Int32} {q_readTable : Nat → Int32} {q_least : Nat → Int32} {q_made : Nat → Int32} {q_enough : Nat → Int32} {q_isWanted : Nat → Int32} {q_column : Nat → Int32} {q_foundColumn : Nat → Int32} {q_walls : Nat → Int64} {q_wallMany : Nat → Int32} {q_chosen : Nat → Int32} {r : (Nat → Int32) × (Nat → Int32)} {v1 : Int32} {v2 : Int32} {v3 : Int32} {v4 : Int32} (h : f_X8_findEnough fu q_st q_readTable q_enough q_isWanted v1 v2 v3 v4 = some r) : mm_Ok mX8_findEnough [.ref 0, .int v1, .int v2, .int v3, .int v4] (W_X8 q_textSize q_cursor q_start q_token q_number q_word q_fault q_line q_foundPains q_foundLine q_deadMany q_deadSize q_deadLeast q_deadMost q_st q_before q_kept q_isKept q_refused q_text q_ones q_said q_readTable q_least q_made q_enough q_isWanted q_column q_foundColumn q_walls q_wallMany q_chosen) (P_X8_findEnough q_textSize q_cursor q_start q_token q_number q_word q_fault q_line q_foundPains q_foundLine q_deadMany q_deadSize q_deadLeast q_deadMost q_st q_before q_kept q_isKept q_refused q_text q_ones q_said q_readTable q_least q_made q_column q_foundColumn q_walls q_wallMany q_chosen r) := by
  rw [f_X8_findEnough] at h
  refine mm_Ok.of pn_X8 (l := [(0, .ref 0), (1, .int v1), (2, .int v2), (3, .int v3), (4, .int v4)]) rfl (Nat.le_of_ble_eq_true rfl) ?_
  refine mm_iload_n 1 dX8_findEnough_0 rfl rfl (pc' := 1) rfl ?_
  refine mm_iload_n 3 dX8_findEnough_1 rfl rfl (pc' := 2) rfl ?_
  obtain ⟨t2, h2, h⟩ := mm_bd h
  refine mm_callS (As := [.int v1, .int v3]) (rest := []) (av := [.int v1, .int v3]) (wc := []) (is := []) cS_X8_198 (ok_X8_letterOf h2) ⟨rfl, rfl, Nat.le_of_ble_eq_true rfl, Nat.le_of_ble_eq_true rfl⟩ dX8_findEnough_2 rfl rfl rfl ⟨rfl, by decide, by decide⟩ (by rintro _ _ ⟨-, rfl⟩; rfl) (Nat.le_of_ble_eq_true rfl) ⟨Nat.le_of_ble_eq_true rfl, Nat.le_of_ble_eq_true rfl⟩ (pc' := 5) rfl ?_
  rintro rv w ⟨rfl, rfl⟩
  show mm_Wp _ _ _ _ 5 [(0, .ref 0), (1, .int v1), (2, .int v2), (3, .int v3), (4, .int v4)] [.int t2] (W_X8 q_textSize q_cursor q_start q_token q_number q_word q_fault q_line q_foundPains q_foundLine q_deadMany q_deadSize q_deadLeast q_deadMost q_st q_before q_kept q_isKept q_refused q_text q_ones q_said q_readTable q_least q_made q_enough q_isWanted q_column q_foundColumn q_walls q_wallMany q_chosen)
  clear h2
  refine mm_istore dX8_findEnough_5 (by decide) (l' := [(5, .int t2), (0, .ref 0), (1, .int v1), (2, .int v2), (3, .int v3), (4, .int v4)]) rfl (pc' := 7) rfl ?_
  refine mm_iconst dX8_findEnough_7 ki_0 (pc' := 8) rfl ?_
  refine mm_istore dX8_findEnough_8 (by decide) (l' := [(6, .int (0 : Int32)), (5, .int t2), (0, .ref 0), (1, .int v1), (2, .int v2), (3, .int v3), (4, .int v4)]) rfl (pc' := 10) rfl ?_
  exact mm_sub [2, 3, 4, 5, 6, 1, 0] rfl (s_X8_findEnough_L10  _ _ _ h)

def P_X8_canBy (q_textSize : Int32) (q_cursor : Int32) (q_start : Int32) (q_token : Int32) (q_number : Int32) (q_word : Int64) (q_fault : Int32) (q_foundPains : Int32) (q_foundLine : Int32) (q_deadMany : Int32) (q_deadSize : Int32) (q_deadLeast : Int32) (q_deadMost : Int32) (q_st : Nat → Int32) (q_before : Nat → Int32) (q_kept : Nat → Int32) (q_isKept : Nat → Int32) (q_refused : Nat → Int32) (q_text : Nat → Int32) (q_ones : Nat → Int32) (q_said : Nat → Int32) (q_readTable : Nat → Int32) (q_least : Nat → Int32) (q_made : Nat → Int32) (q_enough : Nat → Int32) (q_isWanted : Nat → Int32) (q_foundColumn : Nat → Int32) (q_walls : Nat → Int64) (q_wallMany : Nat → Int32) (q_chosen : Nat → Int32) (r : Int32 × Int32 × (Nat → Int32)) : Option Value → mm_W → Prop := fun rv w => rv = some (.int r.1) ∧ w = (W_X8 q_textSize q_cursor q_start q_token q_number q_word q_fault r.2.1 q_foundPains q_foundLine q_deadMany q_deadSize q_deadLeast q_deadMost q_st q_before q_kept q_isKept q_refused q_text q_ones q_said q_readTable q_least q_made q_enough q_isWanted r.2.2 q_foundColumn q_walls q_wallMany q_chosen)
def X8_canBy_J97 (fu : Nat)  (q_line : Int32) (q_st : Nat → Int32) (q_enough : Nat → Int32) (q_column : Nat → Int32) (v3 : Int32)  : Option (Int32 × Int32 × (Nat → Int32)) := mm_gd (mm_zb v3) (some (v3, q_line, q_column))
set_option maxHeartbeats 4000000 in
set_option maxRecDepth 100000 in
theorem s_X8_canBy_J97 {fu : Nat} {q_textSize : Int32} {q_cursor : Int32} {q_start : Int32} {q_token : Int32} {q_number : Int32} {q_word : Int64} {q_fault : Int32} {q_line : Int32} {q_foundPains : Int32} {q_foundLine : Int32} {q_deadMany : Int32} {q_deadSize : Int32} {q_deadLeast : Int32} {q_deadMost : Int32} {q_st : Nat → Int32} {q_before : Nat → Int32} {q_kept : Nat → Int32} {q_isKept : Nat → Int32} {q_refused : Nat → Int32} {q_text : Nat → Int32} {q_ones : Nat → Int32} {q_said : Nat → Int32} {q_readTable : Nat → Int32} {q_least : Nat → Int32} {q_made : Nat → Int32} {q_enough : Nat → Int32} {q_isWanted : Nat → Int32} {q_column : Nat → Int32} {q_foundColumn : Nat → Int32} {q_walls : Nat → Int64} {q_wallMany : Nat → Int32} {q_chosen : Nat → Int32} {r : Int32 × Int32 × (Nat → Int32)} {v3 : Int32} (h : X8_canBy_J97 fu q_line q_st q_enough q_column v3 = some r) : mm_Wp mX8_canBy (mm_R (P_X8_canBy q_textSize q_cursor q_start q_token q_number q_word q_fault q_foundPains q_foundLine q_deadMany q_deadSize q_deadLeast q_deadMost q_st q_before q_kept q_isKept q_refused q_text q_ones q_said q_readTable q_least q_made q_enough q_isWanted q_foundColumn q_walls q_wallMany q_chosen r)) 0 0 97 [(3, .int v3)] [] (W_X8 q_textSize q_cursor q_start q_token q_number q_word q_fault q_line q_foundPains q_foundLine q_deadMany q_deadSize q_deadLeast q_deadMost q_st q_before q_kept q_isKept q_refused q_text q_ones q_said q_readTable q_least q_made q_enough q_isWanted q_column q_foundColumn q_walls q_wallMany q_chosen) := by
  rw [X8_canBy_J97] at h
  refine mm_iload_n 0 dX8_canBy_97 rfl rfl (pc' := 98) rfl ?_
  obtain ⟨c, h⟩ := mm_gd_of h
  have h9 := Option.some.inj h
  subst h9
  exact mm_zret rfl (mm_zb_of c) dX8_canBy_98 ⟨rfl, rfl⟩
def X8_canBy_J78 (fu : Nat) (rec7 : Int32 → (Nat → Int32) → Int32 → Option (Int32 × Int32 × (Nat → Int32))) (rec25 : Int32 → Int32 → Option (Int32 × Int32 × (Nat → Int32))) (q_line : Int32) (q_st : Nat → Int32) (q_enough : Nat → Int32) (q_column : Nat → Int32) (v1 : Int32) (v2 : Int32) (v5 : Int32) (s0 : Int32) : Option (Int32 × Int32 × (Nat → Int32)) := rec25 s0 (v5 + (1 : Int32))
set_option maxHeartbeats 4000000 in
set_option maxRecDepth 100000 in
theorem s_X8_canBy_J78 {fu : Nat} {q_textSize : Int32} {q_cursor : Int32} {q_start : Int32} {q_token : Int32} {q_number : Int32} {q_word : Int64} {q_fault : Int32} {q_line : Int32} {q_foundPains : Int32} {q_foundLine : Int32} {q_deadMany : Int32} {q_deadSize : Int32} {q_deadLeast : Int32} {q_deadMost : Int32} {q_st : Nat → Int32} {q_before : Nat → Int32} {q_kept : Nat → Int32} {q_isKept : Nat → Int32} {q_refused : Nat → Int32} {q_text : Nat → Int32} {q_ones : Nat → Int32} {q_said : Nat → Int32} {q_readTable : Nat → Int32} {q_least : Nat → Int32} {q_made : Nat → Int32} {q_enough : Nat → Int32} {q_isWanted : Nat → Int32} {q_column : Nat → Int32} {q_foundColumn : Nat → Int32} {q_walls : Nat → Int64} {q_wallMany : Nat → Int32} {q_chosen : Nat → Int32} {r : Int32 × Int32 × (Nat → Int32)} {rec7 : Int32 → (Nat → Int32) → Int32 → Option (Int32 × Int32 × (Nat → Int32))} {rec25 : Int32 → Int32 → Option (Int32 × Int32 × (Nat → Int32))} {v1 : Int32} {v2 : Int32} {v5 : Int32} {s0 : Int32} (hr7 : ∀ (z_q_line : Int32) (z_q_column : Nat → Int32) (y3 : Int32), rec7 z_q_line z_q_column y3 = some r → mm_Wp mX8_canBy (mm_R (P_X8_canBy q_textSize q_cursor q_start q_token q_number q_word q_fault q_foundPains q_foundLine q_deadMany q_deadSize q_deadLeast q_deadMost q_st q_before q_kept q_isKept q_refused q_text q_ones q_said q_readTable q_least q_made q_enough q_isWanted q_foundColumn q_walls q_wallMany q_chosen r)) 0 0 7 [(0, .ref 0), (1, .int v1), (2, .int v2), (3, .int y3)] [] (W_X8 q_textSize q_cursor q_start q_token q_number q_word q_fault z_q_line q_foundPains q_foundLine q_deadMany q_deadSize q_deadLeast q_deadMost q_st q_before q_kept q_isKept q_refused q_text q_ones q_said q_readTable q_least q_made q_enough q_isWanted z_q_column q_foundColumn q_walls q_wallMany q_chosen)) (hr25 : ∀ (y4 : Int32) (y5 : Int32), rec25 y4 y5 = some r → mm_Wp mX8_canBy (mm_R (P_X8_canBy q_textSize q_cursor q_start q_token q_number q_word q_fault q_foundPains q_foundLine q_deadMany q_deadSize q_deadLeast q_deadMost q_st q_before q_kept q_isKept q_refused q_text q_ones q_said q_readTable q_least q_made q_enough q_isWanted q_foundColumn q_walls q_wallMany q_chosen r)) 0 0 25 [(0, .ref 0), (1, .int v1), (2, .int v2), (4, .int y4), (5, .int y5)] [] (W_X8 q_textSize q_cursor q_start q_token q_number q_word q_fault q_line q_foundPains q_foundLine q_deadMany q_deadSize q_deadLeast q_deadMost q_st q_before q_kept q_isKept q_refused q_text q_ones q_said q_readTable q_least q_made q_enough q_isWanted q_column q_foundColumn q_walls q_wallMany q_chosen)) (h : X8_canBy_J78 fu rec7 rec25 q_line q_st q_enough q_column v1 v2 v5 s0 = some r) : mm_Wp mX8_canBy (mm_R (P_X8_canBy q_textSize q_cursor q_start q_token q_number q_word q_fault q_foundPains q_foundLine q_deadMany q_deadSize q_deadLeast q_deadMost q_st q_before q_kept q_isKept q_refused q_text q_ones q_said q_readTable q_least q_made q_enough q_isWanted q_foundColumn q_walls q_wallMany q_chosen r)) 0 0 78 [(0, .ref 0), (1, .int v1), (2, .int v2), (5, .int v5)] [.int s0] (W_X8 q_textSize q_cursor q_start q_token q_number q_word q_fault q_line q_foundPains q_foundLine q_deadMany q_deadSize q_deadLeast q_deadMost q_st q_before q_kept q_isKept q_refused q_text q_ones q_said q_readTable q_least q_made q_enough q_isWanted q_column q_foundColumn q_walls q_wallMany q_chosen) := by
  rw [X8_canBy_J78] at h
  refine mm_istore dX8_canBy_78 (by decide) (l' := [(4, .int s0), (0, .ref 0), (1, .int v1), (2, .int v2), (5, .int v5)]) rfl (pc' := 80) rfl ?_
  refine mm_iinc 4 dX8_canBy_80 rfl ki_1 (by decide) (l' := [(5, .int (v5 + (1 : Int32))), (4, .int s0), (0, .ref 0), (1, .int v1), (2, .int v2)]) rfl (pc' := 83) rfl ?_
  refine mm_goto (tgt := 25) dX8_canBy_83 (by decide) ?_
  exact mm_sub [2, 3, 4, 1, 0] rfl (hr25 _ _ h)
def X8_canBy_J77 (fu : Nat) (rec7 : Int32 → (Nat → Int32) → Int32 → Option (Int32 × Int32 × (Nat → Int32))) (rec25 : Int32 → Int32 → Option (Int32 × Int32 × (Nat → Int32))) (q_line : Int32) (q_st : Nat → Int32) (q_enough : Nat → Int32) (q_column : Nat → Int32) (v1 : Int32) (v2 : Int32) (v5 : Int32)  : Option (Int32 × Int32 × (Nat → Int32)) := X8_canBy_J78 fu rec7 rec25 q_line q_st q_enough q_column v1 v2 v5 (0 : Int32)
set_option maxHeartbeats 4000000 in
set_option maxRecDepth 100000 in
theorem s_X8_canBy_J77 {fu : Nat} {q_textSize : Int32} {q_cursor : Int32} {q_start : Int32} {q_token : Int32} {q_number : Int32} {q_word : Int64} {q_fault : Int32} {q_line : Int32} {q_foundPains : Int32} {q_foundLine : Int32} {q_deadMany : Int32} {q_deadSize : Int32} {q_deadLeast : Int32} {q_deadMost : Int32} {q_st : Nat → Int32} {q_before : Nat → Int32} {q_kept : Nat → Int32} {q_isKept : Nat → Int32} {q_refused : Nat → Int32} {q_text : Nat → Int32} {q_ones : Nat → Int32} {q_said : Nat → Int32} {q_readTable : Nat → Int32} {q_least : Nat → Int32} {q_made : Nat → Int32} {q_enough : Nat → Int32} {q_isWanted : Nat → Int32} {q_column : Nat → Int32} {q_foundColumn : Nat → Int32} {q_walls : Nat → Int64} {q_wallMany : Nat → Int32} {q_chosen : Nat → Int32} {r : Int32 × Int32 × (Nat → Int32)} {rec7 : Int32 → (Nat → Int32) → Int32 → Option (Int32 × Int32 × (Nat → Int32))} {rec25 : Int32 → Int32 → Option (Int32 × Int32 × (Nat → Int32))} {v1 : Int32} {v2 : Int32} {v5 : Int32} (hr7 : ∀ (z_q_line : Int32) (z_q_column : Nat → Int32) (y3 : Int32), rec7 z_q_line z_q_column y3 = some r → mm_Wp mX8_canBy (mm_R (P_X8_canBy q_textSize q_cursor q_start q_token q_number q_word q_fault q_foundPains q_foundLine q_deadMany q_deadSize q_deadLeast q_deadMost q_st q_before q_kept q_isKept q_refused q_text q_ones q_said q_readTable q_least q_made q_enough q_isWanted q_foundColumn q_walls q_wallMany q_chosen r)) 0 0 7 [(0, .ref 0), (1, .int v1), (2, .int v2), (3, .int y3)] [] (W_X8 q_textSize q_cursor q_start q_token q_number q_word q_fault z_q_line q_foundPains q_foundLine q_deadMany q_deadSize q_deadLeast q_deadMost q_st q_before q_kept q_isKept q_refused q_text q_ones q_said q_readTable q_least q_made q_enough q_isWanted z_q_column q_foundColumn q_walls q_wallMany q_chosen)) (hr25 : ∀ (y4 : Int32) (y5 : Int32), rec25 y4 y5 = some r → mm_Wp mX8_canBy (mm_R (P_X8_canBy q_textSize q_cursor q_start q_token q_number q_word q_fault q_foundPains q_foundLine q_deadMany q_deadSize q_deadLeast q_deadMost q_st q_before q_kept q_isKept q_refused q_text q_ones q_said q_readTable q_least q_made q_enough q_isWanted q_foundColumn q_walls q_wallMany q_chosen r)) 0 0 25 [(0, .ref 0), (1, .int v1), (2, .int v2), (4, .int y4), (5, .int y5)] [] (W_X8 q_textSize q_cursor q_start q_token q_number q_word q_fault q_line q_foundPains q_foundLine q_deadMany q_deadSize q_deadLeast q_deadMost q_st q_before q_kept q_isKept q_refused q_text q_ones q_said q_readTable q_least q_made q_enough q_isWanted q_column q_foundColumn q_walls q_wallMany q_chosen)) (h : X8_canBy_J77 fu rec7 rec25 q_line q_st q_enough q_column v1 v2 v5 = some r) : mm_Wp mX8_canBy (mm_R (P_X8_canBy q_textSize q_cursor q_start q_token q_number q_word q_fault q_foundPains q_foundLine q_deadMany q_deadSize q_deadLeast q_deadMost q_st q_before q_kept q_isKept q_refused q_text q_ones q_said q_readTable q_least q_made q_enough q_isWanted q_foundColumn q_walls q_wallMany q_chosen r)) 0 0 77 [(0, .ref 0), (1, .int v1), (2, .int v2), (5, .int v5)] [] (W_X8 q_textSize q_cursor q_start q_token q_number q_word q_fault q_line q_foundPains q_foundLine q_deadMany q_deadSize q_deadLeast q_deadMost q_st q_before q_kept q_isKept q_refused q_text q_ones q_said q_readTable q_least q_made q_enough q_isWanted q_column q_foundColumn q_walls q_wallMany q_chosen) := by
  rw [X8_canBy_J77] at h
  refine mm_iconst dX8_canBy_77 ki_0 (pc' := 78) rfl ?_
  exact s_X8_canBy_J78 (hr7 := hr7) (hr25 := hr25) h
def X8_canBy_L25 (fu : Nat) (rec7 : Int32 → (Nat → Int32) → Int32 → Option (Int32 × Int32 × (Nat → Int32))) (q_line : Int32) (q_st : Nat → Int32) (q_enough : Nat → Int32) (q_column : Nat → Int32) (v1 : Int32) (v2 : Int32) : Nat → Int32 → Int32 → Option (Int32 × Int32 × (Nat → Int32))
  | 0, _, _ => none
  | n + 1, v4, v5 => (f_X8_longOf fu v1).bind fun t28 => if t28 ≤ v5 then ((f_X8_nextRow fu q_line q_st q_column v1).bind fun t91 => rec7 t91.1 t91.2 v4) else (if v4 = 0 then (X8_canBy_J77 fu rec7 (X8_canBy_L25 fu rec7 q_line q_st q_enough q_column v1 v2 n) q_line q_st q_enough q_column v1 v2 v5) else (mm_rd q_column 3 v5 fun x64 => mm_rd q_enough 4608 (((64 : Int32) * ((((24 : Int32) * v5) + ((12 : Int32) * q_line)) + x64)) + v2) fun x69 => if x69 = 0 then (X8_canBy_J77 fu rec7 (X8_canBy_L25 fu rec7 q_line q_st q_enough q_column v1 v2 n) q_line q_st q_enough q_column v1 v2 v5) else (X8_canBy_J78 fu rec7 (X8_canBy_L25 fu rec7 q_line q_st q_enough q_column v1 v2 n) q_line q_st q_enough q_column v1 v2 v5 (1 : Int32))))
set_option maxHeartbeats 4000000 in
set_option maxRecDepth 100000 in
theorem s_X8_canBy_L25 {fu : Nat} {q_textSize : Int32} {q_cursor : Int32} {q_start : Int32} {q_token : Int32} {q_number : Int32} {q_word : Int64} {q_fault : Int32} {q_line : Int32} {q_foundPains : Int32} {q_foundLine : Int32} {q_deadMany : Int32} {q_deadSize : Int32} {q_deadLeast : Int32} {q_deadMost : Int32} {q_st : Nat → Int32} {q_before : Nat → Int32} {q_kept : Nat → Int32} {q_isKept : Nat → Int32} {q_refused : Nat → Int32} {q_text : Nat → Int32} {q_ones : Nat → Int32} {q_said : Nat → Int32} {q_readTable : Nat → Int32} {q_least : Nat → Int32} {q_made : Nat → Int32} {q_enough : Nat → Int32} {q_isWanted : Nat → Int32} {q_column : Nat → Int32} {q_foundColumn : Nat → Int32} {q_walls : Nat → Int64} {q_wallMany : Nat → Int32} {q_chosen : Nat → Int32} {r : Int32 × Int32 × (Nat → Int32)} {rec7 : Int32 → (Nat → Int32) → Int32 → Option (Int32 × Int32 × (Nat → Int32))} {v1 : Int32} {v2 : Int32} (hr7 : ∀ (z_q_line : Int32) (z_q_column : Nat → Int32) (y3 : Int32), rec7 z_q_line z_q_column y3 = some r → mm_Wp mX8_canBy (mm_R (P_X8_canBy q_textSize q_cursor q_start q_token q_number q_word q_fault q_foundPains q_foundLine q_deadMany q_deadSize q_deadLeast q_deadMost q_st q_before q_kept q_isKept q_refused q_text q_ones q_said q_readTable q_least q_made q_enough q_isWanted q_foundColumn q_walls q_wallMany q_chosen r)) 0 0 7 [(0, .ref 0), (1, .int v1), (2, .int v2), (3, .int y3)] [] (W_X8 q_textSize q_cursor q_start q_token q_number q_word q_fault z_q_line q_foundPains q_foundLine q_deadMany q_deadSize q_deadLeast q_deadMost q_st q_before q_kept q_isKept q_refused q_text q_ones q_said q_readTable q_least q_made q_enough q_isWanted z_q_column q_foundColumn q_walls q_wallMany q_chosen)) : ∀ (n : Nat) (v4 : Int32) (v5 : Int32), X8_canBy_L25 fu rec7 q_line q_st q_enough q_column v1 v2 n v4 v5 = some r → mm_Wp mX8_canBy (mm_R (P_X8_canBy q_textSize q_cursor q_start q_token q_number q_word q_fault q_foundPains q_foundLine q_deadMany q_deadSize q_deadLeast q_deadMost q_st q_before q_kept q_isKept q_refused q_text q_ones q_said q_readTable q_least q_made q_enough q_isWanted q_foundColumn q_walls q_wallMany q_chosen r)) 0 0 25 [(0, .ref 0), (1, .int v1), (2, .int v2), (4, .int v4), (5, .int v5)] [] (W_X8 q_textSize q_cursor q_start q_token q_number q_word q_fault q_line q_foundPains q_foundLine q_deadMany q_deadSize q_deadLeast q_deadMost q_st q_before q_kept q_isKept q_refused q_text q_ones q_said q_readTable q_least q_made q_enough q_isWanted q_column q_foundColumn q_walls q_wallMany q_chosen) := by
  intro n
  induction n with
  | zero =>
    intro v4 v5 h
    rw [X8_canBy_L25] at h
    cases h
  | succ n hr25 =>
    intro v4 v5 h
    rw [X8_canBy_L25] at h
    refine mm_iload 4 dX8_canBy_25 rfl (pc' := 27) rfl ?_
    refine mm_iload_n 1 dX8_canBy_27 rfl rfl (pc' := 28) rfl ?_
    obtain ⟨t28, h28, h⟩ := mm_bd h
    refine mm_callS (As := [.int v1]) (rest := [.int v5]) (av := [.int v1]) (wc := []) (is := []) cS_X8_195 (ok_X8_longOf h28) ⟨rfl, rfl, Nat.le_of_ble_eq_true rfl, Nat.le_of_ble_eq_true rfl⟩ dX8_canBy_28 rfl rfl rfl ⟨rfl, by decide, by decide⟩ (by rintro _ _ ⟨-, rfl⟩; rfl) (Nat.le_of_ble_eq_true rfl) ⟨Nat.le_of_ble_eq_true rfl, Nat.le_of_ble_eq_true rfl⟩ (pc' := 31) rfl ?_
    rintro rv w ⟨rfl, rfl⟩
    show mm_Wp _ _ _ _ 31 [(0, .ref 0), (1, .int v1), (2, .int v2), (4, .int v4), (5, .int v5)] [.int t28, .int v5] (W_X8 q_textSize q_cursor q_start q_token q_number q_word q_fault q_line q_foundPains q_foundLine q_deadMany q_deadSize q_deadLeast q_deadMost q_st q_before q_kept q_isKept q_refused q_text q_ones q_said q_readTable q_least q_made q_enough q_isWanted q_column q_foundColumn q_walls q_wallMany q_chosen)
    clear h28
    refine mm_icmp_ge (tgt := 86) dX8_canBy_31 (by decide) (pc' := 34) rfl (fun c => ?_) (fun c => ?_)
    · replace h := mm_it h c
      clear c
      refine mm_iload 3 dX8_canBy_86 rfl (pc' := 88) rfl ?_
      refine mm_istore_n dX8_canBy_88 rfl (by decide) (l' := [(3, .int v4), (0, .ref 0), (1, .int v1), (2, .int v2), (4, .int v4), (5, .int v5)]) rfl (pc' := 89) rfl ?_
      refine mm_aload_n 1 dX8_canBy_89 rfl rfl (pc' := 90) rfl ?_
      refine mm_iload_n 2 dX8_canBy_90 rfl rfl (pc' := 91) rfl ?_
      obtain ⟨t91, h91, h⟩ := mm_bd h
      refine mm_call0 (As := [.int v1]) (rest := []) cV_X8_231 (ok_X8_nextRow h91) ⟨rfl, rfl, Nat.le_of_ble_eq_true rfl, Nat.le_of_ble_eq_true rfl⟩ dX8_canBy_91 rfl rfl rfl rfl (by rintro _ _ ⟨-, rfl⟩; rfl) (Nat.le_of_ble_eq_true rfl) ⟨Nat.le_of_ble_eq_true rfl, Nat.le_of_ble_eq_true rfl⟩ (pc' := 94) rfl ?_
      rintro rv w ⟨rfl, rfl⟩
      show mm_Wp _ _ _ _ 94 [(3, .int v4), (0, .ref 0), (1, .int v1), (2, .int v2), (4, .int v4), (5, .int v5)] [] (W_X8 q_textSize q_cursor q_start q_token q_number q_word q_fault t91.1 q_foundPains q_foundLine q_deadMany q_deadSize q_deadLeast q_deadMost q_st q_before q_kept q_isKept q_refused q_text q_ones q_said q_readTable q_least q_made q_enough q_isWanted t91.2 q_foundColumn q_walls q_wallMany q_chosen)
      clear h91
      refine mm_goto (tgt := 7) dX8_canBy_94 (by decide) ?_
      exact mm_sub [1, 2, 3, 0] rfl (hr7 _ _ _ h)
    · replace h := mm_if h c
      clear c
      refine mm_iload 3 dX8_canBy_34 rfl (pc' := 36) rfl ?_
      refine mm_if_eq (tgt := 77) dX8_canBy_36 (by decide) (pc' := 39) rfl (fun c => ?_) (fun c => ?_)
      · replace h := mm_it h c
        clear c
        exact mm_sub [0, 1, 2, 4] rfl (s_X8_canBy_J77 (hr7 := hr7) (hr25 := hr25) h)
      · replace h := mm_if h c
        clear c
        refine mm_aload_n 0 dX8_canBy_39 rfl rfl (pc' := 40) rfl ?_
        refine mm_getf fG_X8_44 dX8_canBy_40 rfl rfl (pc' := 43) rfl ?_
        refine mm_bipush dX8_canBy_43 kb_64 (pc' := 45) rfl ?_
        refine mm_bipush dX8_canBy_45 kb_24 (pc' := 47) rfl ?_
        refine mm_iload 4 dX8_canBy_47 rfl (pc' := 49) rfl ?_
        refine mm_imul dX8_canBy_49 (pc' := 50) rfl ?_
        refine mm_bipush dX8_canBy_50 kb_12 (pc' := 52) rfl ?_
        refine mm_aload_n 0 dX8_canBy_52 rfl rfl (pc' := 53) rfl ?_
        refine mm_getf fG_X8_212 dX8_canBy_53 rfl rfl (pc' := 56) rfl ?_
        refine mm_imul dX8_canBy_56 (pc' := 57) rfl ?_
        refine mm_iadd dX8_canBy_57 (pc' := 58) rfl ?_
        refine mm_aload_n 0 dX8_canBy_58 rfl rfl (pc' := 59) rfl ?_
        refine mm_getf fG_X8_50 dX8_canBy_59 rfl rfl (pc' := 62) rfl ?_
        refine mm_iload 4 dX8_canBy_62 rfl (pc' := 64) rfl ?_
        obtain ⟨x64, c64, e64, h⟩ := mm_rd_of h
        refine mm_iald dX8_canBy_64 rfl c64 e64 (pc' := 65) rfl ?_
        clear c64 e64
        refine mm_iadd dX8_canBy_65 (pc' := 66) rfl ?_
        refine mm_imul dX8_canBy_66 (pc' := 67) rfl ?_
        refine mm_iload_n 2 dX8_canBy_67 rfl rfl (pc' := 68) rfl ?_
        refine mm_iadd dX8_canBy_68 (pc' := 69) rfl ?_
        obtain ⟨x69, c69, e69, h⟩ := mm_rd_of h
        refine mm_zald dX8_canBy_69 rfl c69 e69 (pc' := 70) rfl ?_
        clear c69 e69
        refine mm_if_eq (tgt := 77) dX8_canBy_70 (by decide) (pc' := 73) rfl (fun c => ?_) (fun c => ?_)
        · replace h := mm_it h c
          clear c
          exact mm_sub [0, 1, 2, 4] rfl (s_X8_canBy_J77 (hr7 := hr7) (hr25 := hr25) h)
        · replace h := mm_if h c
          clear c
          refine mm_iconst dX8_canBy_73 ki_1 (pc' := 74) rfl ?_
          refine mm_goto (tgt := 78) dX8_canBy_74 (by decide) ?_
          exact mm_sub [0, 1, 2, 4] rfl (s_X8_canBy_J78 (hr7 := hr7) (hr25 := hr25) h)
def X8_canBy_L7 (fu : Nat)  (q_st : Nat → Int32) (q_enough : Nat → Int32) (v1 : Int32) (v2 : Int32) : Nat → Int32 → (Nat → Int32) → Int32 → Option (Int32 × Int32 × (Nat → Int32))
  | 0, _, _, _ => none
  | n + 1, q_line, q_column, v3 => (f_X8_isRow fu q_line q_st q_column v1).bind fun t9 => if t9 = 0 then (X8_canBy_J97 fu q_line q_st q_enough q_column v3) else (if v3 = 0 then (X8_canBy_L25 fu (X8_canBy_L7 fu q_st q_enough v1 v2 n) q_line q_st q_enough q_column v1 v2 fu (1 : Int32) (0 : Int32)) else (X8_canBy_J97 fu q_line q_st q_enough q_column v3))
set_option maxHeartbeats 4000000 in
set_option maxRecDepth 100000 in
theorem s_X8_canBy_L7 {fu : Nat} {q_textSize : Int32} {q_cursor : Int32} {q_start : Int32} {q_token : Int32} {q_number : Int32} {q_word : Int64} {q_fault : Int32} {q_foundPains : Int32} {q_foundLine : Int32} {q_deadMany : Int32} {q_deadSize : Int32} {q_deadLeast : Int32} {q_deadMost : Int32} {q_st : Nat → Int32} {q_before : Nat → Int32} {q_kept : Nat → Int32} {q_isKept : Nat → Int32} {q_refused : Nat → Int32} {q_text : Nat → Int32} {q_ones : Nat → Int32} {q_said : Nat → Int32} {q_readTable : Nat → Int32} {q_least : Nat → Int32} {q_made : Nat → Int32} {q_enough : Nat → Int32} {q_isWanted : Nat → Int32} {q_foundColumn : Nat → Int32} {q_walls : Nat → Int64} {q_wallMany : Nat → Int32} {q_chosen : Nat → Int32} {r : Int32 × Int32 × (Nat → Int32)} {v1 : Int32} {v2 : Int32} : ∀ (n : Nat) (q_line : Int32) (q_column : Nat → Int32) (v3 : Int32), X8_canBy_L7 fu q_st q_enough v1 v2 n q_line q_column v3 = some r → mm_Wp mX8_canBy (mm_R (P_X8_canBy q_textSize q_cursor q_start q_token q_number q_word q_fault q_foundPains q_foundLine q_deadMany q_deadSize q_deadLeast q_deadMost q_st q_before q_kept q_isKept q_refused q_text q_ones q_said q_readTable q_least q_made q_enough q_isWanted q_foundColumn q_walls q_wallMany q_chosen r)) 0 0 7 [(0, .ref 0), (1, .int v1), (2, .int v2), (3, .int v3)] [] (W_X8 q_textSize q_cursor q_start q_token q_number q_word q_fault q_line q_foundPains q_foundLine q_deadMany q_deadSize q_deadLeast q_deadMost q_st q_before q_kept q_isKept q_refused q_text q_ones q_said q_readTable q_least q_made q_enough q_isWanted q_column q_foundColumn q_walls q_wallMany q_chosen) := by
  intro n
  induction n with
  | zero =>
    intro q_line q_column v3 h
    rw [X8_canBy_L7] at h
    cases h
  | succ n hr7 =>
    intro q_line q_column v3 h
    rw [X8_canBy_L7] at h
    refine mm_aload_n 0 dX8_canBy_7 rfl rfl (pc' := 8) rfl ?_
    refine mm_iload_n 1 dX8_canBy_8 rfl rfl (pc' := 9) rfl ?_
    obtain ⟨t9, h9, h⟩ := mm_bd h
    refine mm_call0 (As := [.int v1]) (rest := []) cV_X8_225 (ok_X8_isRow h9) ⟨rfl, rfl, Nat.le_of_ble_eq_true rfl, Nat.le_of_ble_eq_true rfl⟩ dX8_canBy_9 rfl rfl rfl rfl (by rintro _ _ ⟨-, rfl⟩; rfl) (Nat.le_of_ble_eq_true rfl) ⟨Nat.le_of_ble_eq_true rfl, Nat.le_of_ble_eq_true rfl⟩ (pc' := 12) rfl ?_
    rintro rv w ⟨rfl, rfl⟩
    show mm_Wp _ _ _ _ 12 [(0, .ref 0), (1, .int v1), (2, .int v2), (3, .int v3)] [.int t9] (W_X8 q_textSize q_cursor q_start q_token q_number q_word q_fault q_line q_foundPains q_foundLine q_deadMany q_deadSize q_deadLeast q_deadMost q_st q_before q_kept q_isKept q_refused q_text q_ones q_said q_readTable q_least q_made q_enough q_isWanted q_column q_foundColumn q_walls q_wallMany q_chosen)
    clear h9
    refine mm_if_eq (tgt := 97) dX8_canBy_12 (by decide) (pc' := 15) rfl (fun c => ?_) (fun c => ?_)
    · replace h := mm_it h c
      clear c
      exact mm_sub [3] rfl (s_X8_canBy_J97  h)
    · replace h := mm_if h c
      clear c
      refine mm_iload_n 3 dX8_canBy_15 rfl rfl (pc' := 16) rfl ?_
      refine mm_if_ne (tgt := 97) dX8_canBy_16 (by decide) (pc' := 19) rfl (fun c => ?_) (fun c => ?_)
      · replace h := mm_if h c
        clear c
        exact mm_sub [3] rfl (s_X8_canBy_J97  h)
      · replace h := mm_it h c
        clear c
        refine mm_iconst dX8_canBy_19 ki_1 (pc' := 20) rfl ?_
        refine mm_istore dX8_canBy_20 (by decide) (l' := [(4, .int (1 : Int32)), (0, .ref 0), (1, .int v1), (2, .int v2), (3, .int v3)]) rfl (pc' := 22) rfl ?_
        refine mm_iconst dX8_canBy_22 ki_0 (pc' := 23) rfl ?_
        refine mm_istore dX8_canBy_23 (by decide) (l' := [(5, .int (0 : Int32)), (4, .int (1 : Int32)), (0, .ref 0), (1, .int v1), (2, .int v2), (3, .int v3)]) rfl (pc' := 25) rfl ?_
        exact mm_sub [2, 3, 4, 1, 0] rfl (s_X8_canBy_L25 (hr7 := hr7) _ _ _ h)
def f_X8_canBy (fu : Nat) (q_line : Int32) (q_st : Nat → Int32) (q_enough : Nat → Int32) (q_column : Nat → Int32) (v1 : Int32) (v2 : Int32) : Option (Int32 × Int32 × (Nat → Int32)) := (f_X8_firstRow fu q_line q_column v1).bind fun t4 => X8_canBy_L7 fu q_st q_enough v1 v2 fu t4.1 t4.2 (0 : Int32)
set_option maxHeartbeats 4000000 in
set_option maxRecDepth 100000 in
theorem ok_X8_canBy {fu : Nat} {q_textSize : Int32} {q_cursor : Int32} {q_start : Int32} {q_token : Int32} {q_number : Int32} {q_word : Int64} {q_fault : Int32} {q_line : Int32} {q_foundPains : Int32} {q_foundLine : Int32} {q_deadMany : Int32} {q_deadSize : Int32} {q_deadLeast : Int32} {q_deadMost : Int32} {q_st : Nat → Int32} {q_before : Nat → Int32} {q_kept : Nat → Int32} {q_isKept : Nat → Int32} {q_refused : Nat → Int32} {q_text : Nat → Int32} {q_ones : Nat → Int32} {q_said : Nat → Int32} {q_readTable : Nat → Int32} {q_least : Nat → Int32} {q_made : Nat → Int32} {q_enough : Nat → Int32} {q_isWanted : Nat → Int32} {q_column : Nat → Int32} {q_foundColumn : Nat → Int32} {q_walls : Nat → Int64} {q_wallMany : Nat → Int32} {q_chosen : Nat → Int32} {r : Int32 × Int32 × (Nat → Int32)} {v1 : Int32} {v2 : Int32} (h : f_X8_canBy fu q_line q_st q_enough q_column v1 v2 = some r) : mm_Ok mX8_canBy [.ref 0, .int v1, .int v2] (W_X8 q_textSize q_cursor q_start q_token q_number q_word q_fault q_line q_foundPains q_foundLine q_deadMany q_deadSize q_deadLeast q_deadMost q_st q_before q_kept q_isKept q_refused q_text q_ones q_said q_readTable q_least q_made q_enough q_isWanted q_column q_foundColumn q_walls q_wallMany q_chosen) (P_X8_canBy q_textSize q_cursor q_start q_token q_number q_word q_fault q_foundPains q_foundLine q_deadMany q_deadSize q_deadLeast q_deadMost q_st q_before q_kept q_isKept q_refused q_text q_ones q_said q_readTable q_least q_made q_enough q_isWanted q_foundColumn q_walls q_wallMany q_chosen r) := by
  rw [f_X8_canBy] at h
  refine mm_Ok.of pn_X8 (l := [(0, .ref 0), (1, .int v1), (2, .int v2)]) rfl (Nat.le_of_ble_eq_true rfl) ?_
  refine mm_iconst dX8_canBy_0 ki_0 (pc' := 1) rfl ?_
  refine mm_istore_n dX8_canBy_1 rfl (by decide) (l' := [(3, .int (0 : Int32)), (0, .ref 0), (1, .int v1), (2, .int v2)]) rfl (pc' := 2) rfl ?_
  refine mm_aload_n 1 dX8_canBy_2 rfl rfl (pc' := 3) rfl ?_
  refine mm_iload_n 2 dX8_canBy_3 rfl rfl (pc' := 4) rfl ?_
  obtain ⟨t4, h4, h⟩ := mm_bd h
  refine mm_call0 (As := [.int v1]) (rest := []) cV_X8_215 (ok_X8_firstRow h4) ⟨rfl, rfl, Nat.le_of_ble_eq_true rfl, Nat.le_of_ble_eq_true rfl⟩ dX8_canBy_4 rfl rfl rfl rfl (by rintro _ _ ⟨-, rfl⟩; rfl) (Nat.le_of_ble_eq_true rfl) ⟨Nat.le_of_ble_eq_true rfl, Nat.le_of_ble_eq_true rfl⟩ (pc' := 7) rfl ?_
  rintro rv w ⟨rfl, rfl⟩
  show mm_Wp _ _ _ _ 7 [(3, .int (0 : Int32)), (0, .ref 0), (1, .int v1), (2, .int v2)] [] (W_X8 q_textSize q_cursor q_start q_token q_number q_word q_fault t4.1 q_foundPains q_foundLine q_deadMany q_deadSize q_deadLeast q_deadMost q_st q_before q_kept q_isKept q_refused q_text q_ones q_said q_readTable q_least q_made q_enough q_isWanted t4.2 q_foundColumn q_walls q_wallMany q_chosen)
  clear h4
  exact mm_sub [1, 2, 3, 0] rfl (s_X8_canBy_L7  _ _ _ _ h)

def P_X8_payOf (q_textSize : Int32) (q_cursor : Int32) (q_start : Int32) (q_token : Int32) (q_number : Int32) (q_word : Int64) (q_fault : Int32) (q_line : Int32) (q_foundPains : Int32) (q_foundLine : Int32) (q_deadMany : Int32) (q_deadSize : Int32) (q_deadLeast : Int32) (q_deadMost : Int32) (q_st : Nat → Int32) (q_before : Nat → Int32) (q_kept : Nat → Int32) (q_isKept : Nat → Int32) (q_refused : Nat → Int32) (q_text : Nat → Int32) (q_ones : Nat → Int32) (q_said : Nat → Int32) (q_readTable : Nat → Int32) (q_least : Nat → Int32) (q_made : Nat → Int32) (q_enough : Nat → Int32) (q_isWanted : Nat → Int32) (q_column : Nat → Int32) (q_foundColumn : Nat → Int32) (q_walls : Nat → Int64) (q_wallMany : Nat → Int32) (q_chosen : Nat → Int32) (r : Int32) : Option Value → mm_W → Prop := fun rv w => rv = some (.int r) ∧ w = (W_X8 q_textSize q_cursor q_start q_token q_number q_word q_fault q_line q_foundPains q_foundLine q_deadMany q_deadSize q_deadLeast q_deadMost q_st q_before q_kept q_isKept q_refused q_text q_ones q_said q_readTable q_least q_made q_enough q_isWanted q_column q_foundColumn q_walls q_wallMany q_chosen)
def X8_payOf_L4 (fu : Nat)  (q_st : Nat → Int32) (v1 : Int32) : Nat → Int32 → Int32 → Option (Int32)
  | 0, _, _ => none
  | n + 1, v2, v3 => if (q_st 2) ≤ v3 then (some (v2)) else (mm_rd q_st 354 (((6 : Int32) + ((4 : Int32) * v3)) + (2 : Int32)) fun x32 => mm_let (v2 + (((v1 >>> (v3 &&& 31)) &&& (1 : Int32)) * x32)) fun y35 => (X8_payOf_L4 fu q_st v1 n) y35 (v3 + (1 : Int32)))
set_option maxHeartbeats 4000000 in
set_option maxRecDepth 100000 in
theorem s_X8_payOf_L4 {fu : Nat} {q_textSize : Int32} {q_cursor : Int32} {q_start : Int32} {q_token : Int32} {q_number : Int32} {q_word : Int64} {q_fault : Int32} {q_line : Int32} {q_foundPains : Int32} {q_foundLine : Int32} {q_deadMany : Int32} {q_deadSize : Int32} {q_deadLeast : Int32} {q_deadMost : Int32} {q_st : Nat → Int32} {q_before : Nat → Int32} {q_kept : Nat → Int32} {q_isKept : Nat → Int32} {q_refused : Nat → Int32} {q_text : Nat → Int32} {q_ones : Nat → Int32} {q_said : Nat → Int32} {q_readTable : Nat → Int32} {q_least : Nat → Int32} {q_made : Nat → Int32} {q_enough : Nat → Int32} {q_isWanted : Nat → Int32} {q_column : Nat → Int32} {q_foundColumn : Nat → Int32} {q_walls : Nat → Int64} {q_wallMany : Nat → Int32} {q_chosen : Nat → Int32} {r : Int32} {v1 : Int32} : ∀ (n : Nat) (v2 : Int32) (v3 : Int32), X8_payOf_L4 fu q_st v1 n v2 v3 = some r → mm_Wp mX8_payOf (mm_R (P_X8_payOf q_textSize q_cursor q_start q_token q_number q_word q_fault q_line q_foundPains q_foundLine q_deadMany q_deadSize q_deadLeast q_deadMost q_st q_before q_kept q_isKept q_refused q_text q_ones q_said q_readTable q_least q_made q_enough q_isWanted q_column q_foundColumn q_walls q_wallMany q_chosen r)) 0 0 4 [(0, .ref 0), (1, .int v1), (2, .int v2), (3, .int v3)] [] (W_X8 q_textSize q_cursor q_start q_token q_number q_word q_fault q_line q_foundPains q_foundLine q_deadMany q_deadSize q_deadLeast q_deadMost q_st q_before q_kept q_isKept q_refused q_text q_ones q_said q_readTable q_least q_made q_enough q_isWanted q_column q_foundColumn q_walls q_wallMany q_chosen) := by
  intro n
  induction n with
  | zero =>
    intro v2 v3 h
    rw [X8_payOf_L4] at h
    cases h
  | succ n hr4 =>
    intro v2 v3 h
    rw [X8_payOf_L4] at h
    refine mm_iload_n 3 dX8_payOf_4 rfl rfl (pc' := 5) rfl ?_
    refine mm_aload_n 0 dX8_payOf_5 rfl rfl (pc' := 6) rfl ?_
    refine mm_getf fG_X8_7 dX8_payOf_6 rfl rfl (pc' := 9) rfl ?_
    refine mm_iconst dX8_payOf_9 ki_2 (pc' := 10) rfl ?_
    refine mm_iald dX8_payOf_10 rfl ki_2_354 (congrArg _ kt_2) (pc' := 11) rfl ?_
    refine mm_icmp_ge (tgt := 42) dX8_payOf_11 (by decide) (pc' := 14) rfl (fun c => ?_) (fun c => ?_)
    · replace h := mm_it h c
      clear c
      refine mm_iload_n 2 dX8_payOf_42 rfl rfl (pc' := 43) rfl ?_
      have h9 := Option.some.inj h
      subst h9
      exact mm_iret rfl dX8_payOf_43 ⟨rfl, rfl⟩
    · replace h := mm_if h c
      clear c
      refine mm_iload_n 2 dX8_payOf_14 rfl rfl (pc' := 15) rfl ?_
      refine mm_iload_n 1 dX8_payOf_15 rfl rfl (pc' := 16) rfl ?_
      refine mm_iload_n 3 dX8_payOf_16 rfl rfl (pc' := 17) rfl ?_
      refine mm_ishr dX8_payOf_17 (pc' := 18) rfl ?_
      refine mm_iconst dX8_payOf_18 ki_1 (pc' := 19) rfl ?_
      refine mm_iand dX8_payOf_19 (pc' := 20) rfl ?_
      refine mm_aload_n 0 dX8_payOf_20 rfl rfl (pc' := 21) rfl ?_
      refine mm_getf fG_X8_7 dX8_payOf_21 rfl rfl (pc' := 24) rfl ?_
      refine mm_bipush dX8_payOf_24 kb_6 (pc' := 26) rfl ?_
      refine mm_iconst dX8_payOf_26 ki_4 (pc' := 27) rfl ?_
      refine mm_iload_n 3 dX8_payOf_27 rfl rfl (pc' := 28) rfl ?_
      refine mm_imul dX8_payOf_28 (pc' := 29) rfl ?_
      refine mm_iadd dX8_payOf_29 (pc' := 30) rfl ?_
      refine mm_iconst dX8_payOf_30 ki_2 (pc' := 31) rfl ?_
      refine mm_iadd dX8_payOf_31 (pc' := 32) rfl ?_
      obtain ⟨x32, c32, e32, h⟩ := mm_rd_of h
      refine mm_iald dX8_payOf_32 rfl c32 e32 (pc' := 33) rfl ?_
      clear c32 e32
      refine mm_imul dX8_payOf_33 (pc' := 34) rfl ?_
      refine mm_iadd dX8_payOf_34 (pc' := 35) rfl ?_
      refine mm_topi (fun y35 e => ?_)
      replace h := mm_let_of h y35 e
      clear e
      refine mm_istore_n dX8_payOf_35 rfl (by decide) (l' := [(2, .int y35), (0, .ref 0), (1, .int v1), (3, .int v3)]) rfl (pc' := 36) rfl ?_
      refine mm_iinc 3 dX8_payOf_36 rfl ki_1 (by decide) (l' := [(3, .int (v3 + (1 : Int32))), (2, .int y35), (0, .ref 0), (1, .int v1)]) rfl (pc' := 39) rfl ?_
      refine mm_goto (tgt := 4) dX8_payOf_39 (by decide) ?_
      exact mm_sub [2, 3, 1, 0] rfl (hr4 _ _ h)
def f_X8_payOf (fu : Nat) (q_st : Nat → Int32) (v1 : Int32) : Option (Int32) := X8_payOf_L4 fu q_st v1 fu (0 : Int32) (0 : Int32)
set_option maxHeartbeats 4000000 in
set_option maxRecDepth 100000 in
theorem ok_X8_payOf {fu : Nat} {q_textSize : Int32} {q_cursor : Int32} {q_start : Int32} {q_token : Int32} {q_number : Int32} {q_word : Int64} {q_fault : Int32} {q_line : Int32} {q_foundPains : Int32} {q_foundLine : Int32} {q_deadMany : Int32} {q_deadSize : Int32} {q_deadLeast : Int32} {q_deadMost : Int32} {q_st : Nat → Int32} {q_before : Nat → Int32} {q_kept : Nat → Int32} {q_isKept : Nat → Int32} {q_refused : Nat → Int32} {q_text : Nat → Int32} {q_ones : Nat → Int32} {q_said : Nat → Int32} {q_readTable : Nat → Int32} {q_least : Nat → Int32} {q_made : Nat → Int32} {q_enough : Nat → Int32} {q_isWanted : Nat → Int32} {q_column : Nat → Int32} {q_foundColumn : Nat → Int32} {q_walls : Nat → Int64} {q_wallMany : Nat → Int32} {q_chosen : Nat → Int32} {r : Int32} {v1 : Int32} (h : f_X8_payOf fu q_st v1 = some r) : mm_Ok mX8_payOf [.ref 0, .int v1] (W_X8 q_textSize q_cursor q_start q_token q_number q_word q_fault q_line q_foundPains q_foundLine q_deadMany q_deadSize q_deadLeast q_deadMost q_st q_before q_kept q_isKept q_refused q_text q_ones q_said q_readTable q_least q_made q_enough q_isWanted q_column q_foundColumn q_walls q_wallMany q_chosen) (P_X8_payOf q_textSize q_cursor q_start q_token q_number q_word q_fault q_line q_foundPains q_foundLine q_deadMany q_deadSize q_deadLeast q_deadMost q_st q_before q_kept q_isKept q_refused q_text q_ones q_said q_readTable q_least q_made q_enough q_isWanted q_column q_foundColumn q_walls q_wallMany q_chosen r) := by
  rw [f_X8_payOf] at h
  refine mm_Ok.of pn_X8 (l := [(0, .ref 0), (1, .int v1)]) rfl (Nat.le_of_ble_eq_true rfl) ?_
  refine mm_iconst dX8_payOf_0 ki_0 (pc' := 1) rfl ?_
  refine mm_istore_n dX8_payOf_1 rfl (by decide) (l' := [(2, .int (0 : Int32)), (0, .ref 0), (1, .int v1)]) rfl (pc' := 2) rfl ?_
  refine mm_iconst dX8_payOf_2 ki_0 (pc' := 3) rfl ?_
  refine mm_istore_n dX8_payOf_3 rfl (by decide) (l' := [(3, .int (0 : Int32)), (2, .int (0 : Int32)), (0, .ref 0), (1, .int v1)]) rfl (pc' := 4) rfl ?_
  exact mm_sub [2, 3, 1, 0] rfl (s_X8_payOf_L4  _ _ _ h)

def P_X8_bought (q_textSize : Int32) (q_cursor : Int32) (q_start : Int32) (q_token : Int32) (q_number : Int32) (q_word : Int64) (q_fault : Int32) (q_foundPains : Int32) (q_foundLine : Int32) (q_deadMany : Int32) (q_deadSize : Int32) (q_deadLeast : Int32) (q_deadMost : Int32) (q_st : Nat → Int32) (q_before : Nat → Int32) (q_kept : Nat → Int32) (q_isKept : Nat → Int32) (q_text : Nat → Int32) (q_ones : Nat → Int32) (q_said : Nat → Int32) (q_least : Nat → Int32) (q_made : Nat → Int32) (q_foundColumn : Nat → Int32) (q_walls : Nat → Int64) (q_wallMany : Nat → Int32) (q_chosen : Nat → Int32) (r : Int32 × Int32 × (Nat → Int32) × (Nat → Int32) × (Nat → Int32) × (Nat → Int32) × (Nat → Int32)) : Option Value → mm_W → Prop := fun rv w => rv = some (.int r.1) ∧ w = (W_X8 q_textSize q_cursor q_start q_token q_number q_word q_fault r.2.1 q_foundPains q_foundLine q_deadMany q_deadSize q_deadLeast q_deadMost q_st q_before q_kept q_isKept r.2.2.1 q_text q_ones q_said r.2.2.2.1 q_least q_made r.2.2.2.2.1 r.2.2.2.2.2.1 r.2.2.2.2.2.2 q_foundColumn q_walls q_wallMany q_chosen)
def X8_bought_J24 (fu : Nat)  (q_line : Int32) (q_st : Nat → Int32) (q_refused : Nat → Int32) (q_ones : Nat → Int32) (q_readTable : Nat → Int32) (q_enough : Nat → Int32) (q_isWanted : Nat → Int32) (q_column : Nat → Int32)   : Option (Int32 × Int32 × (Nat → Int32) × (Nat → Int32) × (Nat → Int32) × (Nat → Int32) × (Nat → Int32)) := (f_X8_told fu q_refused (-2 : Int32)).bind fun t27 => some (t27.1, q_line, t27.2, q_readTable, q_enough, q_isWanted, q_column)
set_option maxHeartbeats 4000000 in
set_option maxRecDepth 100000 in
theorem s_X8_bought_J24 {fu : Nat} {q_textSize : Int32} {q_cursor : Int32} {q_start : Int32} {q_token : Int32} {q_number : Int32} {q_word : Int64} {q_fault : Int32} {q_line : Int32} {q_foundPains : Int32} {q_foundLine : Int32} {q_deadMany : Int32} {q_deadSize : Int32} {q_deadLeast : Int32} {q_deadMost : Int32} {q_st : Nat → Int32} {q_before : Nat → Int32} {q_kept : Nat → Int32} {q_isKept : Nat → Int32} {q_refused : Nat → Int32} {q_text : Nat → Int32} {q_ones : Nat → Int32} {q_said : Nat → Int32} {q_readTable : Nat → Int32} {q_least : Nat → Int32} {q_made : Nat → Int32} {q_enough : Nat → Int32} {q_isWanted : Nat → Int32} {q_column : Nat → Int32} {q_foundColumn : Nat → Int32} {q_walls : Nat → Int64} {q_wallMany : Nat → Int32} {q_chosen : Nat → Int32} {r : Int32 × Int32 × (Nat → Int32) × (Nat → Int32) × (Nat → Int32) × (Nat → Int32) × (Nat → Int32)} (h : X8_bought_J24 fu q_line q_st q_refused q_ones q_readTable q_enough q_isWanted q_column = some r) : mm_Wp mX8_bought (mm_R (P_X8_bought q_textSize q_cursor q_start q_token q_number q_word q_fault q_foundPains q_foundLine q_deadMany q_deadSize q_deadLeast q_deadMost q_st q_before q_kept q_isKept q_text q_ones q_said q_least q_made q_foundColumn q_walls q_wallMany q_chosen r)) 0 0 24 [(0, .ref 0)] [] (W_X8 q_textSize q_cursor q_start q_token q_number q_word q_fault q_line q_foundPains q_foundLine q_deadMany q_deadSize q_deadLeast q_deadMost q_st q_before q_kept q_isKept q_refused q_text q_ones q_said q_readTable q_least q_made q_enough q_isWanted q_column q_foundColumn q_walls q_wallMany q_chosen) := by
  rw [X8_bought_J24] at h
  refine mm_aload_n 0 dX8_bought_24 rfl rfl (pc' := 25) rfl ?_
  refine mm_bipush dX8_bought_25 kb_m2 (pc' := 27) rfl ?_
  obtain ⟨t27, h27, h⟩ := mm_bd h
  refine mm_call0 (As := [.int (-2 : Int32)]) (rest := []) cV_X8_92 (ok_X8_told h27) ⟨rfl, rfl, Nat.le_of_ble_eq_true rfl, Nat.le_of_ble_eq_true rfl⟩ dX8_bought_27 rfl rfl rfl rfl (by rintro _ _ ⟨-, rfl⟩; rfl) (Nat.le_of_ble_eq_true rfl) ⟨Nat.le_of_ble_eq_true rfl, Nat.le_of_ble_eq_true rfl⟩ (pc' := 30) rfl ?_
  rintro rv w ⟨rfl, rfl⟩
  show mm_Wp _ _ _ _ 30 [(0, .ref 0)] [.int t27.1] (W_X8 q_textSize q_cursor q_start q_token q_number q_word q_fault q_line q_foundPains q_foundLine q_deadMany q_deadSize q_deadLeast q_deadMost q_st q_before q_kept q_isKept t27.2 q_text q_ones q_said q_readTable q_least q_made q_enough q_isWanted q_column q_foundColumn q_walls q_wallMany q_chosen)
  clear h27
  have h9 := Option.some.inj h
  subst h9
  exact mm_iret rfl dX8_bought_30 ⟨rfl, rfl⟩
def X8_bought_J142 (fu : Nat) (rec94 : Int32 → (Nat → Int32) → Int32 → Int32 → Option (Int32 × Int32 × (Nat → Int32) × (Nat → Int32) × (Nat → Int32) × (Nat → Int32) × (Nat → Int32))) (q_line : Int32) (q_st : Nat → Int32) (q_refused : Nat → Int32) (q_ones : Nat → Int32) (q_readTable : Nat → Int32) (q_enough : Nat → Int32) (q_isWanted : Nat → Int32) (q_column : Nat → Int32) (v1 : Int32) (v3 : Int32) (v4 : Int32) (v5 : Int32)  : Option (Int32 × Int32 × (Nat → Int32) × (Nat → Int32) × (Nat → Int32) × (Nat → Int32) × (Nat → Int32)) := rec94 q_line q_column v4 (v5 + (1 : Int32))
set_option maxHeartbeats 4000000 in
set_option maxRecDepth 100000 in
theorem s_X8_bought_J142 {fu : Nat} {q_textSize : Int32} {q_cursor : Int32} {q_start : Int32} {q_token : Int32} {q_number : Int32} {q_word : Int64} {q_fault : Int32} {q_line : Int32} {q_foundPains : Int32} {q_foundLine : Int32} {q_deadMany : Int32} {q_deadSize : Int32} {q_deadLeast : Int32} {q_deadMost : Int32} {q_st : Nat → Int32} {q_before : Nat → Int32} {q_kept : Nat → Int32} {q_isKept : Nat → Int32} {q_refused : Nat → Int32} {q_text : Nat → Int32} {q_ones : Nat → Int32} {q_said : Nat → Int32} {q_readTable : Nat → Int32} {q_least : Nat → Int32} {q_made : Nat → Int32} {q_enough : Nat → Int32} {q_isWanted : Nat → Int32} {q_column : Nat → Int32} {q_foundColumn : Nat → Int32} {q_walls : Nat → Int64} {q_wallMany : Nat → Int32} {q_chosen : Nat → Int32} {r : Int32 × Int32 × (Nat → Int32) × (Nat → Int32) × (Nat → Int32) × (Nat → Int32) × (Nat → Int32)} {rec94 : Int32 → (Nat → Int32) → Int32 → Int32 → Option (Int32 × Int32 × (Nat → Int32) × (Nat → Int32) × (Nat → Int32) × (Nat → Int32) × (Nat → Int32))} {v1 : Int32} {v3 : Int32} {v4 : Int32} {v5 : Int32} (hr94 : ∀ (z_q_line : Int32) (z_q_column : Nat → Int32) (y4 : Int32) (y5 : Int32), rec94 z_q_line z_q_column y4 y5 = some r → mm_Wp mX8_bought (mm_R (P_X8_bought q_textSize q_cursor q_start q_token q_number q_word q_fault q_foundPains q_foundLine q_deadMany q_deadSize q_deadLeast q_deadMost q_st q_before q_kept q_isKept q_text q_ones q_said q_least q_made q_foundColumn q_walls q_wallMany q_chosen r)) 0 0 94 [(0, .ref 0), (1, .int v1), (3, .int v3), (4, .int y4), (5, .int y5)] [] (W_X8 q_textSize q_cursor q_start q_token q_number q_word q_fault z_q_line q_foundPains q_foundLine q_deadMany q_deadSize q_deadLeast q_deadMost q_st q_before q_kept q_isKept q_refused q_text q_ones q_said q_readTable q_least q_made q_enough q_isWanted z_q_column q_foundColumn q_walls q_wallMany q_chosen)) (h : X8_bought_J142 fu rec94 q_line q_st q_refused q_ones q_readTable q_enough q_isWanted q_column v1 v3 v4 v5 = some r) : mm_Wp mX8_bought (mm_R (P_X8_bought q_textSize q_cursor q_start q_token q_number q_word q_fault q_foundPains q_foundLine q_deadMany q_deadSize q_deadLeast q_deadMost q_st q_before q_kept q_isKept q_text q_ones q_said q_least q_made q_foundColumn q_walls q_wallMany q_chosen r)) 0 0 142 [(0, .ref 0), (1, .int v1), (3, .int v3), (4, .int v4), (5, .int v5)] [] (W_X8 q_textSize q_cursor q_start q_token q_number q_word q_fault q_line q_foundPains q_foundLine q_deadMany q_deadSize q_deadLeast q_deadMost q_st q_before q_kept q_isKept q_refused q_text q_ones q_said q_readTable q_least q_made q_enough q_isWanted q_column q_foundColumn q_walls q_wallMany q_chosen) := by
  rw [X8_bought_J142] at h
  refine mm_iinc 4 dX8_bought_142 rfl ki_1 (by decide) (l' := [(5, .int (v5 + (1 : Int32))), (0, .ref 0), (1, .int v1), (3, .int v3), (4, .int v4)]) rfl (pc' := 145) rfl ?_
  refine mm_goto (tgt := 94) dX8_bought_145 (by decide) ?_
  exact mm_sub [1, 2, 3, 4, 0] rfl (hr94 _ _ _ _ h)
def X8_bought_J128 (fu : Nat) (rec94 : Int32 → (Nat → Int32) → Int32 → Int32 → Option (Int32 × Int32 × (Nat → Int32) × (Nat → Int32) × (Nat → Int32) × (Nat → Int32) × (Nat → Int32))) (q_line : Int32) (q_st : Nat → Int32) (q_refused : Nat → Int32) (q_ones : Nat → Int32) (q_readTable : Nat → Int32) (q_enough : Nat → Int32) (q_isWanted : Nat → Int32) (q_column : Nat → Int32) (v1 : Int32) (v3 : Int32) (v4 : Int32) (v5 : Int32)  : Option (Int32 × Int32 × (Nat → Int32) × (Nat → Int32) × (Nat → Int32) × (Nat → Int32) × (Nat → Int32)) := (f_X8_canBy fu q_line q_st q_enough q_column v1 v5).bind fun t132 => if t132.1 = 0 then (X8_bought_J142 fu rec94 t132.2.1 q_st q_refused q_ones q_readTable q_enough q_isWanted t132.2.2 v1 v3 v4 v5) else (X8_bought_J142 fu rec94 t132.2.1 q_st q_refused q_ones q_readTable q_enough q_isWanted t132.2.2 v1 v3 v5 v5)
set_option maxHeartbeats 4000000 in
set_option maxRecDepth 100000 in
theorem s_X8_bought_J128 {fu : Nat} {q_textSize : Int32} {q_cursor : Int32} {q_start : Int32} {q_token : Int32} {q_number : Int32} {q_word : Int64} {q_fault : Int32} {q_line : Int32} {q_foundPains : Int32} {q_foundLine : Int32} {q_deadMany : Int32} {q_deadSize : Int32} {q_deadLeast : Int32} {q_deadMost : Int32} {q_st : Nat → Int32} {q_before : Nat → Int32} {q_kept : Nat → Int32} {q_isKept : Nat → Int32} {q_refused : Nat → Int32} {q_text : Nat → Int32} {q_ones : Nat → Int32} {q_said : Nat → Int32} {q_readTable : Nat → Int32} {q_least : Nat → Int32} {q_made : Nat → Int32} {q_enough : Nat → Int32} {q_isWanted : Nat → Int32} {q_column : Nat → Int32} {q_foundColumn : Nat → Int32} {q_walls : Nat → Int64} {q_wallMany : Nat → Int32} {q_chosen : Nat → Int32} {r : Int32 × Int32 × (Nat → Int32) × (Nat → Int32) × (Nat → Int32) × (Nat → Int32) × (Nat → Int32)} {rec94 : Int32 → (Nat → Int32) → Int32 → Int32 → Option (Int32 × Int32 × (Nat → Int32) × (Nat → Int32) × (Nat → Int32) × (Nat → Int32) × (Nat → Int32))} {v1 : Int32} {v3 : Int32} {v4 : Int32} {v5 : Int32} (hr94 : ∀ (z_q_line : Int32) (z_q_column : Nat → Int32) (y4 : Int32) (y5 : Int32), rec94 z_q_line z_q_column y4 y5 = some r → mm_Wp mX8_bought (mm_R (P_X8_bought q_textSize q_cursor q_start q_token q_number q_word q_fault q_foundPains q_foundLine q_deadMany q_deadSize q_deadLeast q_deadMost q_st q_before q_kept q_isKept q_text q_ones q_said q_least q_made q_foundColumn q_walls q_wallMany q_chosen r)) 0 0 94 [(0, .ref 0), (1, .int v1), (3, .int v3), (4, .int y4), (5, .int y5)] [] (W_X8 q_textSize q_cursor q_start q_token q_number q_word q_fault z_q_line q_foundPains q_foundLine q_deadMany q_deadSize q_deadLeast q_deadMost q_st q_before q_kept q_isKept q_refused q_text q_ones q_said q_readTable q_least q_made q_enough q_isWanted z_q_column q_foundColumn q_walls q_wallMany q_chosen)) (h : X8_bought_J128 fu rec94 q_line q_st q_refused q_ones q_readTable q_enough q_isWanted q_column v1 v3 v4 v5 = some r) : mm_Wp mX8_bought (mm_R (P_X8_bought q_textSize q_cursor q_start q_token q_number q_word q_fault q_foundPains q_foundLine q_deadMany q_deadSize q_deadLeast q_deadMost q_st q_before q_kept q_isKept q_text q_ones q_said q_least q_made q_foundColumn q_walls q_wallMany q_chosen r)) 0 0 128 [(0, .ref 0), (1, .int v1), (3, .int v3), (4, .int v4), (5, .int v5)] [] (W_X8 q_textSize q_cursor q_start q_token q_number q_word q_fault q_line q_foundPains q_foundLine q_deadMany q_deadSize q_deadLeast q_deadMost q_st q_before q_kept q_isKept q_refused q_text q_ones q_said q_readTable q_least q_made q_enough q_isWanted q_column q_foundColumn q_walls q_wallMany q_chosen) := by
  rw [X8_bought_J128] at h
  refine mm_aload_n 0 dX8_bought_128 rfl rfl (pc' := 129) rfl ?_
  refine mm_iload_n 1 dX8_bought_129 rfl rfl (pc' := 130) rfl ?_
  refine mm_iload 4 dX8_bought_130 rfl (pc' := 132) rfl ?_
  obtain ⟨t132, h132, h⟩ := mm_bd h
  refine mm_call0 (As := [.int v1, .int v5]) (rest := []) cV_X8_265 (ok_X8_canBy h132) ⟨rfl, rfl, Nat.le_of_ble_eq_true rfl, Nat.le_of_ble_eq_true rfl⟩ dX8_bought_132 rfl rfl rfl rfl (by rintro _ _ ⟨-, rfl⟩; rfl) (Nat.le_of_ble_eq_true rfl) ⟨Nat.le_of_ble_eq_true rfl, Nat.le_of_ble_eq_true rfl⟩ (pc' := 135) rfl ?_
  rintro rv w ⟨rfl, rfl⟩
  show mm_Wp _ _ _ _ 135 [(0, .ref 0), (1, .int v1), (3, .int v3), (4, .int v4), (5, .int v5)] [.int t132.1] (W_X8 q_textSize q_cursor q_start q_token q_number q_word q_fault t132.2.1 q_foundPains q_foundLine q_deadMany q_deadSize q_deadLeast q_deadMost q_st q_before q_kept q_isKept q_refused q_text q_ones q_said q_readTable q_least q_made q_enough q_isWanted t132.2.2 q_foundColumn q_walls q_wallMany q_chosen)
  clear h132
  refine mm_if_eq (tgt := 142) dX8_bought_135 (by decide) (pc' := 138) rfl (fun c => ?_) (fun c => ?_)
  · replace h := mm_it h c
    clear c
    exact s_X8_bought_J142 (hr94 := hr94) h
  · replace h := mm_if h c
    clear c
    refine mm_iload 4 dX8_bought_138 rfl (pc' := 140) rfl ?_
    refine mm_istore dX8_bought_140 (by decide) (l' := [(4, .int v5), (0, .ref 0), (1, .int v1), (3, .int v3), (5, .int v5)]) rfl (pc' := 142) rfl ?_
    exact mm_sub [1, 2, 3, 0, 4] rfl (s_X8_bought_J142 (hr94 := hr94) h)
def X8_bought_L94 (fu : Nat)  (q_st : Nat → Int32) (q_refused : Nat → Int32) (q_ones : Nat → Int32) (q_readTable : Nat → Int32) (q_enough : Nat → Int32) (q_isWanted : Nat → Int32) (v1 : Int32) (v3 : Int32) : Nat → Int32 → (Nat → Int32) → Int32 → Int32 → Option (Int32 × Int32 × (Nat → Int32) × (Nat → Int32) × (Nat → Int32) × (Nat → Int32) × (Nat → Int32))
  | 0, _, _, _, _ => none
  | n + 1, q_line, q_column, v4, v5 => if ((1 : Int32) <<< ((q_st 2) &&& 31)) ≤ v5 then (if v4 = (-1 : Int32) then (some ((-1 : Int32), q_line, q_refused, q_readTable, q_enough, q_isWanted, q_column)) else (if v3 = 0 then ((f_X8_payOf fu q_st v4).bind fun t165 => some (t165, q_line, q_refused, q_readTable, q_enough, q_isWanted, q_column)) else (some (v4, q_line, q_refused, q_readTable, q_enough, q_isWanted, q_column)))) else (if v4 = (-1 : Int32) then (X8_bought_J128 fu (X8_bought_L94 fu q_st q_refused q_ones q_readTable q_enough q_isWanted v1 v3 n) q_line q_st q_refused q_ones q_readTable q_enough q_isWanted q_column v1 v3 v4 v5) else ((f_X8_payOf fu q_st v5).bind fun t116 => (f_X8_payOf fu q_st v4).bind fun t122 => if t122 ≤ t116 then (X8_bought_J142 fu (X8_bought_L94 fu q_st q_refused q_ones q_readTable q_enough q_isWanted v1 v3 n) q_line q_st q_refused q_ones q_readTable q_enough q_isWanted q_column v1 v3 v4 v5) else (X8_bought_J128 fu (X8_bought_L94 fu q_st q_refused q_ones q_readTable q_enough q_isWanted v1 v3 n) q_line q_st q_refused q_ones q_readTable q_enough q_isWanted q_column v1 v3 v4 v5)))
set_option maxHeartbeats 4000000 in
set_option maxRecDepth 100000 in
theorem s_X8_bought_L94 {fu : Nat} {q_textSize : Int32} {q_cursor : Int32} {q_start : Int32} {q_token : Int32} {q_number : Int32} {q_word : Int64} {q_fault : Int32} {q_foundPains : Int32} {q_foundLine : Int32} {q_deadMany : Int32} {q_deadSize : Int32} {q_deadLeast : Int32} {q_deadMost : Int32} {q_st : Nat → Int32} {q_before : Nat → Int32} {q_kept : Nat → Int32} {q_isKept : Nat → Int32} {q_refused : Nat → Int32} {q_text : Nat → Int32} {q_ones : Nat → Int32} {q_said : Nat → Int32} {q_readTable : Nat → Int32} {q_least : Nat → Int32} {q_made : Nat → Int32} {q_enough : Nat → Int32} {q_isWanted : Nat → Int32} {q_foundColumn : Nat → Int32} {q_walls : Nat → Int64} {q_wallMany : Nat → Int32} {q_chosen : Nat → Int32} {r : Int32 × Int32 × (Nat → Int32) × (Nat → Int32) × (Nat → Int32) × (Nat → Int32) × (Nat → Int32)} {v1 : Int32} {v3 : Int32} : ∀ (n : Nat) (q_line : Int32) (q_column : Nat → Int32) (v4 : Int32) (v5 : Int32), X8_bought_L94 fu q_st q_refused q_ones q_readTable q_enough q_isWanted v1 v3 n q_line q_column v4 v5 = some r → mm_Wp mX8_bought (mm_R (P_X8_bought q_textSize q_cursor q_start q_token q_number q_word q_fault q_foundPains q_foundLine q_deadMany q_deadSize q_deadLeast q_deadMost q_st q_before q_kept q_isKept q_text q_ones q_said q_least q_made q_foundColumn q_walls q_wallMany q_chosen r)) 0 0 94 [(0, .ref 0), (1, .int v1), (3, .int v3), (4, .int v4), (5, .int v5)] [] (W_X8 q_textSize q_cursor q_start q_token q_number q_word q_fault q_line q_foundPains q_foundLine q_deadMany q_deadSize q_deadLeast q_deadMost q_st q_before q_kept q_isKept q_refused q_text q_ones q_said q_readTable q_least q_made q_enough q_isWanted q_column q_foundColumn q_walls q_wallMany q_chosen) := by
  intro n
  induction n with
  | zero =>
    intro q_line q_column v4 v5 h
    rw [X8_bought_L94] at h
    cases h
  | succ n hr94 =>
    intro q_line q_column v4 v5 h
    rw [X8_bought_L94] at h
    refine mm_iload 4 dX8_bought_94 rfl (pc' := 96) rfl ?_
    refine mm_iconst dX8_bought_96 ki_1 (pc' := 97) rfl ?_
    refine mm_aload_n 0 dX8_bought_97 rfl rfl (pc' := 98) rfl ?_
    refine mm_getf fG_X8_7 dX8_bought_98 rfl rfl (pc' := 101) rfl ?_
    refine mm_iconst dX8_bought_101 ki_2 (pc' := 102) rfl ?_
    refine mm_iald dX8_bought_102 rfl ki_2_354 (congrArg _ kt_2) (pc' := 103) rfl ?_
    refine mm_ishl dX8_bought_103 (pc' := 104) rfl ?_
    refine mm_icmp_ge (tgt := 148) dX8_bought_104 (by decide) (pc' := 107) rfl (fun c => ?_) (fun c => ?_)
    · replace h := mm_it h c
      clear c
      refine mm_iload 3 dX8_bought_148 rfl (pc' := 150) rfl ?_
      refine mm_iconst dX8_bought_150 ki_m1 (pc' := 151) rfl ?_
      refine mm_icmp_ne (tgt := 158) dX8_bought_151 (by decide) (pc' := 154) rfl (fun c => ?_) (fun c => ?_)
      · replace h := mm_if h c
        clear c
        refine mm_iload_n 2 dX8_bought_158 rfl rfl (pc' := 159) rfl ?_
        refine mm_if_ne (tgt := 171) dX8_bought_159 (by decide) (pc' := 162) rfl (fun c => ?_) (fun c => ?_)
        · replace h := mm_if h c
          clear c
          refine mm_iload 3 dX8_bought_171 rfl (pc' := 173) rfl ?_
          have h9 := Option.some.inj h
          subst h9
          exact mm_iret rfl dX8_bought_173 ⟨rfl, rfl⟩
        · replace h := mm_it h c
          clear c
          refine mm_aload_n 0 dX8_bought_162 rfl rfl (pc' := 163) rfl ?_
          refine mm_iload 3 dX8_bought_163 rfl (pc' := 165) rfl ?_
          obtain ⟨t165, h165, h⟩ := mm_bd h
          refine mm_call0 (As := [.int v4]) (rest := []) cV_X8_262 (ok_X8_payOf h165) ⟨rfl, rfl, Nat.le_of_ble_eq_true rfl, Nat.le_of_ble_eq_true rfl⟩ dX8_bought_165 rfl rfl rfl rfl (by rintro _ _ ⟨-, rfl⟩; rfl) (Nat.le_of_ble_eq_true rfl) ⟨Nat.le_of_ble_eq_true rfl, Nat.le_of_ble_eq_true rfl⟩ (pc' := 168) rfl ?_
          rintro rv w ⟨rfl, rfl⟩
          show mm_Wp _ _ _ _ 168 [(0, .ref 0), (1, .int v1), (3, .int v3), (4, .int v4), (5, .int v5)] [.int t165] (W_X8 q_textSize q_cursor q_start q_token q_number q_word q_fault q_line q_foundPains q_foundLine q_deadMany q_deadSize q_deadLeast q_deadMost q_st q_before q_kept q_isKept q_refused q_text q_ones q_said q_readTable q_least q_made q_enough q_isWanted q_column q_foundColumn q_walls q_wallMany q_chosen)
          clear h165
          refine mm_goto (tgt := 173) dX8_bought_168 (by decide) ?_
          have h9 := Option.some.inj h
          subst h9
          exact mm_iret rfl dX8_bought_173 ⟨rfl, rfl⟩
      · replace h := mm_it h c
        clear c
        refine mm_iconst dX8_bought_154 ki_m1 (pc' := 155) rfl ?_
        refine mm_goto (tgt := 173) dX8_bought_155 (by decide) ?_
        have h9 := Option.some.inj h
        subst h9
        exact mm_iret rfl dX8_bought_173 ⟨rfl, rfl⟩
    · replace h := mm_if h c
      clear c
      refine mm_iload 3 dX8_bought_107 rfl (pc' := 109) rfl ?_
      refine mm_iconst dX8_bought_109 ki_m1 (pc' := 110) rfl ?_
      refine mm_icmp_eq (tgt := 128) dX8_bought_110 (by decide) (pc' := 113) rfl (fun c => ?_) (fun c => ?_)
      · replace h := mm_it h c
        clear c
        exact s_X8_bought_J128 (hr94 := hr94) h
      · replace h := mm_if h c
        clear c
        refine mm_aload_n 0 dX8_bought_113 rfl rfl (pc' := 114) rfl ?_
        refine mm_iload 4 dX8_bought_114 rfl (pc' := 116) rfl ?_
        obtain ⟨t116, h116, h⟩ := mm_bd h
        refine mm_call0 (As := [.int v5]) (rest := []) cV_X8_262 (ok_X8_payOf h116) ⟨rfl, rfl, Nat.le_of_ble_eq_true rfl, Nat.le_of_ble_eq_true rfl⟩ dX8_bought_116 rfl rfl rfl rfl (by rintro _ _ ⟨-, rfl⟩; rfl) (Nat.le_of_ble_eq_true rfl) ⟨Nat.le_of_ble_eq_true rfl, Nat.le_of_ble_eq_true rfl⟩ (pc' := 119) rfl ?_
        rintro rv w ⟨rfl, rfl⟩
        show mm_Wp _ _ _ _ 119 [(0, .ref 0), (1, .int v1), (3, .int v3), (4, .int v4), (5, .int v5)] [.int t116] (W_X8 q_textSize q_cursor q_start q_token q_number q_word q_fault q_line q_foundPains q_foundLine q_deadMany q_deadSize q_deadLeast q_deadMost q_st q_before q_kept q_isKept q_refused q_text q_ones q_said q_readTable q_least q_made q_enough q_isWanted q_column q_foundColumn q_walls q_wallMany q_chosen)
        clear h116
        refine mm_aload_n 0 dX8_bought_119 rfl rfl (pc' := 120) rfl ?_
        refine mm_iload 3 dX8_bought_120 rfl (pc' := 122) rfl ?_
        obtain ⟨t122, h122, h⟩ := mm_bd h
        refine mm_call0 (As := [.int v4]) (rest := [.int t116]) cV_X8_262 (ok_X8_payOf h122) ⟨rfl, rfl, Nat.le_of_ble_eq_true rfl, Nat.le_of_ble_eq_true rfl⟩ dX8_bought_122 rfl rfl rfl rfl (by rintro _ _ ⟨-, rfl⟩; rfl) (Nat.le_of_ble_eq_true rfl) ⟨Nat.le_of_ble_eq_true rfl, Nat.le_of_ble_eq_true rfl⟩ (pc' := 125) rfl ?_
        rintro rv w ⟨rfl, rfl⟩
        show mm_Wp _ _ _ _ 125 [(0, .ref 0), (1, .int v1), (3, .int v3), (4, .int v4), (5, .int v5)] [.int t122, .int t116] (W_X8 q_textSize q_cursor q_start q_token q_number q_word q_fault q_line q_foundPains q_foundLine q_deadMany q_deadSize q_deadLeast q_deadMost q_st q_before q_kept q_isKept q_refused q_text q_ones q_said q_readTable q_least q_made q_enough q_isWanted q_column q_foundColumn q_walls q_wallMany q_chosen)
        clear h122
        refine mm_icmp_ge (tgt := 142) dX8_bought_125 (by decide) (pc' := 128) rfl (fun c => ?_) (fun c => ?_)
        · replace h := mm_it h c
          clear c
          exact s_X8_bought_J142 (hr94 := hr94) h
        · replace h := mm_if h c
          clear c
          exact s_X8_bought_J128 (hr94 := hr94) h
def X8_bought_J76 (fu : Nat) (rec38 : (Nat → Int32) → (Nat → Int32) → Int32 → Option (Int32 × Int32 × (Nat → Int32) × (Nat → Int32) × (Nat → Int32) × (Nat → Int32) × (Nat → Int32))) (rec50 : (Nat → Int32) → (Nat → Int32) → Int32 → Option (Int32 × Int32 × (Nat → Int32) × (Nat → Int32) × (Nat → Int32) × (Nat → Int32) × (Nat → Int32))) (q_line : Int32) (q_st : Nat → Int32) (q_refused : Nat → Int32) (q_ones : Nat → Int32) (q_readTable : Nat → Int32) (q_enough : Nat → Int32) (q_isWanted : Nat → Int32) (q_column : Nat → Int32) (v1 : Int32) (v2 : Int32) (v3 : Int32) (v4 : Int32) (v5 : Int32)  : Option (Int32 × Int32 × (Nat → Int32) × (Nat → Int32) × (Nat → Int32) × (Nat → Int32) × (Nat → Int32)) := rec50 q_enough q_isWanted (v5 + (1 : Int32))
set_option maxHeartbeats 4000000 in
set_option maxRecDepth 100000 in
theorem s_X8_bought_J76 {fu : Nat} {q_textSize : Int32} {q_cursor : Int32} {q_start : Int32} {q_token : Int32} {q_number : Int32} {q_word : Int64} {q_fault : Int32} {q_line : Int32} {q_foundPains : Int32} {q_foundLine : Int32} {q_deadMany : Int32} {q_deadSize : Int32} {q_deadLeast : Int32} {q_deadMost : Int32} {q_st : Nat → Int32} {q_before : Nat → Int32} {q_kept : Nat → Int32} {q_isKept : Nat → Int32} {q_refused : Nat → Int32} {q_text : Nat → Int32} {q_ones : Nat → Int32} {q_said : Nat → Int32} {q_readTable : Nat → Int32} {q_least : Nat → Int32} {q_made : Nat → Int32} {q_enough : Nat → Int32} {q_isWanted : Nat → Int32} {q_column : Nat → Int32} {q_foundColumn : Nat → Int32} {q_walls : Nat → Int64} {q_wallMany : Nat → Int32} {q_chosen : Nat → Int32} {r : Int32 × Int32 × (Nat → Int32) × (Nat → Int32) × (Nat → Int32) × (Nat → Int32) × (Nat → Int32)} {rec38 : (Nat → Int32) → (Nat → Int32) → Int32 → Option (Int32 × Int32 × (Nat → Int32) × (Nat → Int32) × (Nat → Int32) × (Nat → Int32) × (Nat → Int32))} {rec50 : (Nat → Int32) → (Nat → Int32) → Int32 → Option (Int32 × Int32 × (Nat → Int32) × (Nat → Int32) × (Nat → Int32) × (Nat → Int32) × (Nat → Int32))} {v1 : Int32} {v2 : Int32} {v3 : Int32} {v4 : Int32} {v5 : Int32} (hr38 : ∀ (z_q_enough : Nat → Int32) (z_q_isWanted : Nat → Int32) (y4 : Int32), rec38 z_q_enough z_q_isWanted y4 = some r → mm_Wp mX8_bought (mm_R (P_X8_bought q_textSize q_cursor q_start q_token q_number q_word q_fault q_foundPains q_foundLine q_deadMany q_deadSize q_deadLeast q_deadMost q_st q_before q_kept q_isKept q_text q_ones q_said q_least q_made q_foundColumn q_walls q_wallMany q_chosen r)) 0 0 38 [(0, .ref 0), (1, .int v1), (2, .int v2), (3, .int v3), (4, .int y4)] [] (W_X8 q_textSize q_cursor q_start q_token q_number q_word q_fault q_line q_foundPains q_foundLine q_deadMany q_deadSize q_deadLeast q_deadMost q_st q_before q_kept q_isKept q_refused q_text q_ones q_said q_readTable q_least q_made z_q_enough z_q_isWanted q_column q_foundColumn q_walls q_wallMany q_chosen)) (hr50 : ∀ (z_q_enough : Nat → Int32) (z_q_isWanted : Nat → Int32) (y5 : Int32), rec50 z_q_enough z_q_isWanted y5 = some r → mm_Wp mX8_bought (mm_R (P_X8_bought q_textSize q_cursor q_start q_token q_number q_word q_fault q_foundPains q_foundLine q_deadMany q_deadSize q_deadLeast q_deadMost q_st q_before q_kept q_isKept q_text q_ones q_said q_least q_made q_foundColumn q_walls q_wallMany q_chosen r)) 0 0 50 [(0, .ref 0), (1, .int v1), (2, .int v2), (3, .int v3), (4, .int v4), (5, .int y5)] [] (W_X8 q_textSize q_cursor q_start q_token q_number q_word q_fault q_line q_foundPains q_foundLine q_deadMany q_deadSize q_deadLeast q_deadMost q_st q_before q_kept q_isKept q_refused q_text q_ones q_said q_readTable q_least q_made z_q_enough z_q_isWanted q_column q_foundColumn q_walls q_wallMany q_chosen)) (h : X8_bought_J76 fu rec38 rec50 q_line q_st q_refused q_ones q_readTable q_enough q_isWanted q_column v1 v2 v3 v4 v5 = some r) : mm_Wp mX8_bought (mm_R (P_X8_bought q_textSize q_cursor q_start q_token q_number q_word q_fault q_foundPains q_foundLine q_deadMany q_deadSize q_deadLeast q_deadMost q_st q_before q_kept q_isKept q_text q_ones q_said q_least q_made q_foundColumn q_walls q_wallMany q_chosen r)) 0 0 76 [(0, .ref 0), (1, .int v1), (2, .int v2), (3, .int v3), (4, .int v4), (5, .int v5)] [] (W_X8 q_textSize q_cursor q_start q_token q_number q_word q_fault q_line q_foundPains q_foundLine q_deadMany q_deadSize q_deadLeast q_deadMost q_st q_before q_kept q_isKept q_refused q_text q_ones q_said q_readTable q_least q_made q_enough q_isWanted q_column q_foundColumn q_walls q_wallMany q_chosen) := by
  rw [X8_bought_J76] at h
  refine mm_iinc 5 dX8_bought_76 rfl ki_1 (by decide) (l' := [(5, .int (v5 + (1 : Int32))), (0, .ref 0), (1, .int v1), (2, .int v2), (3, .int v3), (4, .int v4)]) rfl (pc' := 79) rfl ?_
  refine mm_goto (tgt := 50) dX8_bought_79 (by decide) ?_
  exact mm_sub [1, 2, 3, 4, 5, 0] rfl (hr50 _ _ _ h)
def X8_bought_L50 (fu : Nat) (rec38 : (Nat → Int32) → (Nat → Int32) → Int32 → Option (Int32 × Int32 × (Nat → Int32) × (Nat → Int32) × (Nat → Int32) × (Nat → Int32) × (Nat → Int32))) (q_line : Int32) (q_st : Nat → Int32) (q_refused : Nat → Int32) (q_ones : Nat → Int32) (q_readTable : Nat → Int32) (q_column : Nat → Int32) (v1 : Int32) (v2 : Int32) (v3 : Int32) (v4 : Int32) : Nat → (Nat → Int32) → (Nat → Int32) → Int32 → Option (Int32 × Int32 × (Nat → Int32) × (Nat → Int32) × (Nat → Int32) × (Nat → Int32) × (Nat → Int32))
  | 0, _, _, _ => none
  | n + 1, q_enough, q_isWanted, v5 => if (24 : Int32) ≤ v5 then (rec38 q_enough q_isWanted (v4 + (1 : Int32))) else ((f_X8_isBox fu q_st v5).bind fun t60 => if t60 = 0 then (X8_bought_J76 fu rec38 (X8_bought_L50 fu rec38 q_line q_st q_refused q_ones q_readTable q_column v1 v2 v3 v4 n) q_line q_st q_refused q_ones q_readTable q_enough q_isWanted q_column v1 v2 v3 v4 v5) else ((f_X8_findEnough fu q_st q_readTable q_enough q_isWanted v1 v2 v4 v5).bind fun t73 => X8_bought_J76 fu rec38 (X8_bought_L50 fu rec38 q_line q_st q_refused q_ones q_readTable q_column v1 v2 v3 v4 n) q_line q_st q_refused q_ones q_readTable t73.1 t73.2 q_column v1 v2 v3 v4 v5))
set_option maxHeartbeats 4000000 in
set_option maxRecDepth 100000 in
theorem s_X8_bought_L50 {fu : Nat} {q_textSize : Int32} {q_cursor : Int32} {q_start : Int32} {q_token : Int32} {q_number : Int32} {q_word : Int64} {q_fault : Int32} {q_line : Int32} {q_foundPains : Int32} {q_foundLine : Int32} {q_deadMany : Int32} {q_deadSize : Int32} {q_deadLeast : Int32} {q_deadMost : Int32} {q_st : Nat → Int32} {q_before : Nat → Int32} {q_kept : Nat → Int32} {q_isKept : Nat → Int32} {q_refused : Nat → Int32} {q_text : Nat → Int32} {q_ones : Nat → Int32} {q_said : Nat → Int32} {q_readTable : Nat → Int32} {q_least : Nat → Int32} {q_made : Nat → Int32} {q_column : Nat → Int32} {q_foundColumn : Nat → Int32} {q_walls : Nat → Int64} {q_wallMany : Nat → Int32} {q_chosen : Nat → Int32} {r : Int32 × Int32 × (Nat → Int32) × (Nat → Int32) × (Nat → Int32) × (Nat → Int32) × (Nat → Int32)} {rec38 : (Nat → Int32) → (Nat → Int32) → Int32 → Option (Int32 × Int32 × (Nat → Int32) × (Nat → Int32) × (Nat → Int32) × (Nat → Int32) × (Nat → Int32))} {v1 : Int32} {v2 : Int32} {v3 : Int32} {v4 : Int32} (hr38 : ∀ (z_q_enough : Nat → Int32) (z_q_isWanted : Nat → Int32) (y4 : Int32), rec38 z_q_enough z_q_isWanted y4 = some r → mm_Wp mX8_bought (mm_R (P_X8_bought q_textSize q_cursor q_start q_token q_number q_word q_fault q_foundPains q_foundLine q_deadMany q_deadSize q_deadLeast q_deadMost q_st q_before q_kept q_isKept q_text q_ones q_said q_least q_made q_foundColumn q_walls q_wallMany q_chosen r)) 0 0 38 [(0, .ref 0), (1, .int v1), (2, .int v2), (3, .int v3), (4, .int y4)] [] (W_X8 q_textSize q_cursor q_start q_token q_number q_word q_fault q_line q_foundPains q_foundLine q_deadMany q_deadSize q_deadLeast q_deadMost q_st q_before q_kept q_isKept q_refused q_text q_ones q_said q_readTable q_least q_made z_q_enough z_q_isWanted q_column q_foundColumn q_walls q_wallMany q_chosen)) : ∀ (n : Nat) (q_enough : Nat → Int32) (q_isWanted : Nat → Int32) (v5 : Int32), X8_bought_L50 fu rec38 q_line q_st q_refused q_ones q_readTable q_column v1 v2 v3 v4 n q_enough q_isWanted v5 = some r → mm_Wp mX8_bought (mm_R (P_X8_bought q_textSize q_cursor q_start q_token q_number q_word q_fault q_foundPains q_foundLine q_deadMany q_deadSize q_deadLeast q_deadMost q_st q_before q_kept q_isKept q_text q_ones q_said q_least q_made q_foundColumn q_walls q_wallMany q_chosen r)) 0 0 50 [(0, .ref 0), (1, .int v1), (2, .int v2), (3, .int v3), (4, .int v4), (5, .int v5)] [] (W_X8 q_textSize q_cursor q_start q_token q_number q_word q_fault q_line q_foundPains q_foundLine q_deadMany q_deadSize q_deadLeast q_deadMost q_st q_before q_kept q_isKept q_refused q_text q_ones q_said q_readTable q_least q_made q_enough q_isWanted q_column q_foundColumn q_walls q_wallMany q_chosen) := by
  intro n
  induction n with
  | zero =>
    intro q_enough q_isWanted v5 h
    rw [X8_bought_L50] at h
    cases h
  | succ n hr50 =>
    intro q_enough q_isWanted v5 h
    rw [X8_bought_L50] at h
    refine mm_iload 5 dX8_bought_50 rfl (pc' := 52) rfl ?_
    refine mm_bipush dX8_bought_52 kb_24 (pc' := 54) rfl ?_
    refine mm_icmp_ge (tgt := 82) dX8_bought_54 (by decide) (pc' := 57) rfl (fun c => ?_) (fun c => ?_)
    · replace h := mm_it h c
      clear c
      refine mm_iinc 4 dX8_bought_82 rfl ki_1 (by decide) (l' := [(4, .int (v4 + (1 : Int32))), (0, .ref 0), (1, .int v1), (2, .int v2), (3, .int v3), (5, .int v5)]) rfl (pc' := 85) rfl ?_
      refine mm_goto (tgt := 38) dX8_bought_85 (by decide) ?_
      exact mm_sub [1, 2, 3, 4, 0] rfl (hr38 _ _ _ h)
    · replace h := mm_if h c
      clear c
      refine mm_aload_n 0 dX8_bought_57 rfl rfl (pc' := 58) rfl ?_
      refine mm_iload 5 dX8_bought_58 rfl (pc' := 60) rfl ?_
      obtain ⟨t60, h60, h⟩ := mm_bd h
      refine mm_call0 (As := [.int v5]) (rest := []) cV_X8_189 (ok_X8_isBox h60) ⟨rfl, rfl, Nat.le_of_ble_eq_true rfl, Nat.le_of_ble_eq_true rfl⟩ dX8_bought_60 rfl rfl rfl rfl (by rintro _ _ ⟨-, rfl⟩; rfl) (Nat.le_of_ble_eq_true rfl) ⟨Nat.le_of_ble_eq_true rfl, Nat.le_of_ble_eq_true rfl⟩ (pc' := 63) rfl ?_
      rintro rv w ⟨rfl, rfl⟩
      show mm_Wp _ _ _ _ 63 [(0, .ref 0), (1, .int v1), (2, .int v2), (3, .int v3), (4, .int v4), (5, .int v5)] [.int t60] (W_X8 q_textSize q_cursor q_start q_token q_number q_word q_fault q_line q_foundPains q_foundLine q_deadMany q_deadSize q_deadLeast q_deadMost q_st q_before q_kept q_isKept q_refused q_text q_ones q_said q_readTable q_least q_made q_enough q_isWanted q_column q_foundColumn q_walls q_wallMany q_chosen)
      clear h60
      refine mm_if_eq (tgt := 76) dX8_bought_63 (by decide) (pc' := 66) rfl (fun c => ?_) (fun c => ?_)
      · replace h := mm_it h c
        clear c
        exact s_X8_bought_J76 (hr38 := hr38) (hr50 := hr50) h
      · replace h := mm_if h c
        clear c
        refine mm_aload_n 0 dX8_bought_66 rfl rfl (pc' := 67) rfl ?_
        refine mm_iload_n 1 dX8_bought_67 rfl rfl (pc' := 68) rfl ?_
        refine mm_iload_n 2 dX8_bought_68 rfl rfl (pc' := 69) rfl ?_
        refine mm_iload 4 dX8_bought_69 rfl (pc' := 71) rfl ?_
        refine mm_iload 5 dX8_bought_71 rfl (pc' := 73) rfl ?_
        obtain ⟨t73, h73, h⟩ := mm_bd h
        refine mm_call0 (As := [.int v1, .int v2, .int v4, .int v5]) (rest := []) cV_X8_259 (ok_X8_findEnough h73) ⟨rfl, rfl, Nat.le_of_ble_eq_true rfl, Nat.le_of_ble_eq_true rfl⟩ dX8_bought_73 rfl rfl rfl rfl (by rintro _ _ ⟨-, rfl⟩; rfl) (Nat.le_of_ble_eq_true rfl) ⟨Nat.le_of_ble_eq_true rfl, Nat.le_of_ble_eq_true rfl⟩ (pc' := 76) rfl ?_
        rintro rv w ⟨rfl, rfl⟩
        show mm_Wp _ _ _ _ 76 [(0, .ref 0), (1, .int v1), (2, .int v2), (3, .int v3), (4, .int v4), (5, .int v5)] [] (W_X8 q_textSize q_cursor q_start q_token q_number q_word q_fault q_line q_foundPains q_foundLine q_deadMany q_deadSize q_deadLeast q_deadMost q_st q_before q_kept q_isKept q_refused q_text q_ones q_said q_readTable q_least q_made t73.1 t73.2 q_column q_foundColumn q_walls q_wallMany q_chosen)
        clear h73
        exact s_X8_bought_J76 (hr38 := hr38) (hr50 := hr50) h
def X8_bought_L38 (fu : Nat)  (q_line : Int32) (q_st : Nat → Int32) (q_refused : Nat → Int32) (q_ones : Nat → Int32) (q_readTable : Nat → Int32) (q_column : Nat → Int32) (v1 : Int32) (v2 : Int32) (v3 : Int32) : Nat → (Nat → Int32) → (Nat → Int32) → Int32 → Option (Int32 × Int32 × (Nat → Int32) × (Nat → Int32) × (Nat → Int32) × (Nat → Int32) × (Nat → Int32))
  | 0, _, _, _ => none
  | n + 1, q_enough, q_isWanted, v4 => (f_X8_longOf fu v1).bind fun t41 => if t41 ≤ v4 then (X8_bought_L94 fu q_st q_refused q_ones q_readTable q_enough q_isWanted v1 v3 fu q_line q_column (-1 : Int32) (0 : Int32)) else (X8_bought_L50 fu (X8_bought_L38 fu q_line q_st q_refused q_ones q_readTable q_column v1 v2 v3 n) q_line q_st q_refused q_ones q_readTable q_column v1 v2 v3 v4 fu q_enough q_isWanted (0 : Int32))
set_option maxHeartbeats 4000000 in
set_option maxRecDepth 100000 in
theorem s_X8_bought_L38 {fu : Nat} {q_textSize : Int32} {q_cursor : Int32} {q_start : Int32} {q_token : Int32} {q_number : Int32} {q_word : Int64} {q_fault : Int32} {q_line : Int32} {q_foundPains : Int32} {q_foundLine : Int32} {q_deadMany : Int32} {q_deadSize : Int32} {q_deadLeast : Int32} {q_deadMost : Int32} {q_st : Nat → Int32} {q_before : Nat → Int32} {q_kept : Nat → Int32} {q_isKept : Nat → Int32} {q_refused : Nat → Int32} {q_text : Nat → Int32} {q_ones : Nat → Int32} {q_said : Nat → Int32} {q_readTable : Nat → Int32} {q_least : Nat → Int32} {q_made : Nat → Int32} {q_column : Nat → Int32} {q_foundColumn : Nat → Int32} {q_walls : Nat → Int64} {q_wallMany : Nat → Int32} {q_chosen : Nat → Int32} {r : Int32 × Int32 × (Nat → Int32) × (Nat → Int32) × (Nat → Int32) × (Nat → Int32) × (Nat → Int32)} {v1 : Int32} {v2 : Int32} {v3 : Int32} : ∀ (n : Nat) (q_enough : Nat → Int32) (q_isWanted : Nat → Int32) (v4 : Int32), X8_bought_L38 fu q_line q_st q_refused q_ones q_readTable q_column v1 v2 v3 n q_enough q_isWanted v4 = some r → mm_Wp mX8_bought (mm_R (P_X8_bought q_textSize q_cursor q_start q_token q_number q_word q_fault q_foundPains q_foundLine q_deadMany q_deadSize q_deadLeast q_deadMost q_st q_before q_kept q_isKept q_text q_ones q_said q_least q_made q_foundColumn q_walls q_wallMany q_chosen r)) 0 0 38 [(0, .ref 0), (1, .int v1), (2, .int v2), (3, .int v3), (4, .int v4)] [] (W_X8 q_textSize q_cursor q_start q_token q_number q_word q_fault q_line q_foundPains q_foundLine q_deadMany q_deadSize q_deadLeast q_deadMost q_st q_before q_kept q_isKept q_refused q_text q_ones q_said q_readTable q_least q_made q_enough q_isWanted q_column q_foundColumn q_walls q_wallMany q_chosen) := by
  intro n
  induction n with
  | zero =>
    intro q_enough q_isWanted v4 h
    rw [X8_bought_L38] at h
    cases h
  | succ n hr38 =>
    intro q_enough q_isWanted v4 h
    rw [X8_bought_L38] at h
    refine mm_iload 4 dX8_bought_38 rfl (pc' := 40) rfl ?_
    refine mm_iload_n 1 dX8_bought_40 rfl rfl (pc' := 41) rfl ?_
    obtain ⟨t41, h41, h⟩ := mm_bd h
    refine mm_callS (As := [.int v1]) (rest := [.int v4]) (av := [.int v1]) (wc := []) (is := []) cS_X8_195 (ok_X8_longOf h41) ⟨rfl, rfl, Nat.le_of_ble_eq_true rfl, Nat.le_of_ble_eq_true rfl⟩ dX8_bought_41 rfl rfl rfl ⟨rfl, by decide, by decide⟩ (by rintro _ _ ⟨-, rfl⟩; rfl) (Nat.le_of_ble_eq_true rfl) ⟨Nat.le_of_ble_eq_true rfl, Nat.le_of_ble_eq_true rfl⟩ (pc' := 44) rfl ?_
    rintro rv w ⟨rfl, rfl⟩
    show mm_Wp _ _ _ _ 44 [(0, .ref 0), (1, .int v1), (2, .int v2), (3, .int v3), (4, .int v4)] [.int t41, .int v4] (W_X8 q_textSize q_cursor q_start q_token q_number q_word q_fault q_line q_foundPains q_foundLine q_deadMany q_deadSize q_deadLeast q_deadMost q_st q_before q_kept q_isKept q_refused q_text q_ones q_said q_readTable q_least q_made q_enough q_isWanted q_column q_foundColumn q_walls q_wallMany q_chosen)
    clear h41
    refine mm_icmp_ge (tgt := 88) dX8_bought_44 (by decide) (pc' := 47) rfl (fun c => ?_) (fun c => ?_)
    · replace h := mm_it h c
      clear c
      refine mm_iconst dX8_bought_88 ki_m1 (pc' := 89) rfl ?_
      refine mm_istore dX8_bought_89 (by decide) (l' := [(4, .int (-1 : Int32)), (0, .ref 0), (1, .int v1), (2, .int v2), (3, .int v3)]) rfl (pc' := 91) rfl ?_
      refine mm_iconst dX8_bought_91 ki_0 (pc' := 92) rfl ?_
      refine mm_istore dX8_bought_92 (by decide) (l' := [(5, .int (0 : Int32)), (4, .int (-1 : Int32)), (0, .ref 0), (1, .int v1), (2, .int v2), (3, .int v3)]) rfl (pc' := 94) rfl ?_
      exact mm_sub [2, 3, 5, 1, 0] rfl (s_X8_bought_L94  _ _ _ _ _ h)
    · replace h := mm_if h c
      clear c
      refine mm_iconst dX8_bought_47 ki_0 (pc' := 48) rfl ?_
      refine mm_istore dX8_bought_48 (by decide) (l' := [(5, .int (0 : Int32)), (0, .ref 0), (1, .int v1), (2, .int v2), (3, .int v3), (4, .int v4)]) rfl (pc' := 50) rfl ?_
      exact mm_sub [1, 2, 3, 4, 5, 0] rfl (s_X8_bought_L50 (hr38 := hr38) _ _ _ _ h)
def f_X8_bought (fu : Nat) (q_line : Int32) (q_st : Nat → Int32) (q_refused : Nat → Int32) (q_ones : Nat → Int32) (q_readTable : Nat → Int32) (q_enough : Nat → Int32) (q_isWanted : Nat → Int32) (q_column : Nat → Int32) (v1 : Int32) (v2 : Int32) (v3 : Int32) : Option (Int32 × Int32 × (Nat → Int32) × (Nat → Int32) × (Nat → Int32) × (Nat → Int32) × (Nat → Int32)) := (f_X8_isWord fu q_st v1).bind fun t2 => if t2 = 0 then (X8_bought_J24 fu q_line q_st q_refused q_ones q_readTable q_enough q_isWanted q_column) else ((f_X8_isHour fu v2).bind fun t9 => if t9 = 0 then (X8_bought_J24 fu q_line q_st q_refused q_ones q_readTable q_enough q_isWanted q_column) else ((f_X8_in fu v3 (0 : Int32) (1 : Int32)).bind fun t18 => if t18 = 0 then (X8_bought_J24 fu q_line q_st q_refused q_ones q_readTable q_enough q_isWanted q_column) else ((f_X8_findReads fu q_st q_ones q_readTable).bind fun t32 => X8_bought_L38 fu q_line q_st q_refused q_ones t32 q_column v1 v2 v3 fu q_enough q_isWanted (0 : Int32))))
set_option maxHeartbeats 4000000 in
set_option maxRecDepth 100000 in
theorem ok_X8_bought {fu : Nat} {q_textSize : Int32} {q_cursor : Int32} {q_start : Int32} {q_token : Int32} {q_number : Int32} {q_word : Int64} {q_fault : Int32} {q_line : Int32} {q_foundPains : Int32} {q_foundLine : Int32} {q_deadMany : Int32} {q_deadSize : Int32} {q_deadLeast : Int32} {q_deadMost : Int32} {q_st : Nat → Int32} {q_before : Nat → Int32} {q_kept : Nat → Int32} {q_isKept : Nat → Int32} {q_refused : Nat → Int32} {q_text : Nat → Int32} {q_ones : Nat → Int32} {q_said : Nat → Int32} {q_readTable : Nat → Int32} {q_least : Nat → Int32} {q_made : Nat → Int32} {q_enough : Nat → Int32} {q_isWanted : Nat → Int32} {q_column : Nat → Int32} {q_foundColumn : Nat → Int32} {q_walls : Nat → Int64} {q_wallMany : Nat → Int32} {q_chosen : Nat → Int32} {r : Int32 × Int32 × (Nat → Int32) × (Nat → Int32) × (Nat → Int32) × (Nat → Int32) × (Nat → Int32)} {v1 : Int32} {v2 : Int32} {v3 : Int32} (h : f_X8_bought fu q_line q_st q_refused q_ones q_readTable q_enough q_isWanted q_column v1 v2 v3 = some r) : mm_Ok mX8_bought [.ref 0, .int v1, .int v2, .int v3] (W_X8 q_textSize q_cursor q_start q_token q_number q_word q_fault q_line q_foundPains q_foundLine q_deadMany q_deadSize q_deadLeast q_deadMost q_st q_before q_kept q_isKept q_refused q_text q_ones q_said q_readTable q_least q_made q_enough q_isWanted q_column q_foundColumn q_walls q_wallMany q_chosen) (P_X8_bought q_textSize q_cursor q_start q_token q_number q_word q_fault q_foundPains q_foundLine q_deadMany q_deadSize q_deadLeast q_deadMost q_st q_before q_kept q_isKept q_text q_ones q_said q_least q_made q_foundColumn q_walls q_wallMany q_chosen r) := by
  rw [f_X8_bought] at h
  refine mm_Ok.of pn_X8 (l := [(0, .ref 0), (1, .int v1), (2, .int v2), (3, .int v3)]) rfl (Nat.le_of_ble_eq_true rfl) ?_
  refine mm_aload_n 0 dX8_bought_0 rfl rfl (pc' := 1) rfl ?_
  refine mm_iload_n 1 dX8_bought_1 rfl rfl (pc' := 2) rfl ?_
  obtain ⟨t2, h2, h⟩ := mm_bd h
  refine mm_call0 (As := [.int v1]) (rest := []) cV_X8_234 (ok_X8_isWord h2) ⟨rfl, rfl, Nat.le_of_ble_eq_true rfl, Nat.le_of_ble_eq_true rfl⟩ dX8_bought_2 rfl rfl rfl rfl (by rintro _ _ ⟨-, rfl⟩; rfl) (Nat.le_of_ble_eq_true rfl) ⟨Nat.le_of_ble_eq_true rfl, Nat.le_of_ble_eq_true rfl⟩ (pc' := 5) rfl ?_
  rintro rv w ⟨rfl, rfl⟩
  show mm_Wp _ _ _ _ 5 [(0, .ref 0), (1, .int v1), (2, .int v2), (3, .int v3)] [.int t2] (W_X8 q_textSize q_cursor q_start q_token q_number q_word q_fault q_line q_foundPains q_foundLine q_deadMany q_deadSize q_deadLeast q_deadMost q_st q_before q_kept q_isKept q_refused q_text q_ones q_said q_readTable q_least q_made q_enough q_isWanted q_column q_foundColumn q_walls q_wallMany q_chosen)
  clear h2
  refine mm_if_eq (tgt := 24) dX8_bought_5 (by decide) (pc' := 8) rfl (fun c => ?_) (fun c => ?_)
  · replace h := mm_it h c
    clear c
    exact mm_sub [0] rfl (s_X8_bought_J24  h)
  · replace h := mm_if h c
    clear c
    refine mm_iload_n 2 dX8_bought_8 rfl rfl (pc' := 9) rfl ?_
    obtain ⟨t9, h9, h⟩ := mm_bd h
    refine mm_callS (As := [.int v2]) (rest := []) (av := [.int v2]) (wc := []) (is := []) cS_X8_85 (ok_X8_isHour h9) ⟨rfl, rfl, Nat.le_of_ble_eq_true rfl, Nat.le_of_ble_eq_true rfl⟩ dX8_bought_9 rfl rfl rfl ⟨rfl, by decide, by decide⟩ (by rintro _ _ ⟨-, rfl⟩; rfl) (Nat.le_of_ble_eq_true rfl) ⟨Nat.le_of_ble_eq_true rfl, Nat.le_of_ble_eq_true rfl⟩ (pc' := 12) rfl ?_
    rintro rv w ⟨rfl, rfl⟩
    show mm_Wp _ _ _ _ 12 [(0, .ref 0), (1, .int v1), (2, .int v2), (3, .int v3)] [.int t9] (W_X8 q_textSize q_cursor q_start q_token q_number q_word q_fault q_line q_foundPains q_foundLine q_deadMany q_deadSize q_deadLeast q_deadMost q_st q_before q_kept q_isKept q_refused q_text q_ones q_said q_readTable q_least q_made q_enough q_isWanted q_column q_foundColumn q_walls q_wallMany q_chosen)
    clear h9
    refine mm_if_eq (tgt := 24) dX8_bought_12 (by decide) (pc' := 15) rfl (fun c => ?_) (fun c => ?_)
    · replace h := mm_it h c
      clear c
      exact mm_sub [0] rfl (s_X8_bought_J24  h)
    · replace h := mm_if h c
      clear c
      refine mm_iload_n 3 dX8_bought_15 rfl rfl (pc' := 16) rfl ?_
      refine mm_iconst dX8_bought_16 ki_0 (pc' := 17) rfl ?_
      refine mm_iconst dX8_bought_17 ki_1 (pc' := 18) rfl ?_
      obtain ⟨t18, h18, h⟩ := mm_bd h
      refine mm_callS (As := [.int v3, .int (0 : Int32), .int (1 : Int32)]) (rest := []) (av := [.int v3, .int (0 : Int32), .int (1 : Int32)]) (wc := []) (is := []) cS_X8_70 (ok_X8_in h18) ⟨rfl, rfl, Nat.le_of_ble_eq_true rfl, Nat.le_of_ble_eq_true rfl⟩ dX8_bought_18 rfl rfl rfl ⟨rfl, by decide, by decide⟩ (by rintro _ _ ⟨-, rfl⟩; rfl) (Nat.le_of_ble_eq_true rfl) ⟨Nat.le_of_ble_eq_true rfl, Nat.le_of_ble_eq_true rfl⟩ (pc' := 21) rfl ?_
      rintro rv w ⟨rfl, rfl⟩
      show mm_Wp _ _ _ _ 21 [(0, .ref 0), (1, .int v1), (2, .int v2), (3, .int v3)] [.int t18] (W_X8 q_textSize q_cursor q_start q_token q_number q_word q_fault q_line q_foundPains q_foundLine q_deadMany q_deadSize q_deadLeast q_deadMost q_st q_before q_kept q_isKept q_refused q_text q_ones q_said q_readTable q_least q_made q_enough q_isWanted q_column q_foundColumn q_walls q_wallMany q_chosen)
      clear h18
      refine mm_if_ne (tgt := 31) dX8_bought_21 (by decide) (pc' := 24) rfl (fun c => ?_) (fun c => ?_)
      · replace h := mm_if h c
        clear c
        refine mm_aload_n 0 dX8_bought_31 rfl rfl (pc' := 32) rfl ?_
        obtain ⟨t32, h32, h⟩ := mm_bd h
        refine mm_call0 (As := []) (rest := []) cV_X8_205 (ok_X8_findReads h32) ⟨rfl, rfl, Nat.le_of_ble_eq_true rfl, Nat.le_of_ble_eq_true rfl⟩ dX8_bought_32 rfl rfl rfl rfl (by rintro _ _ ⟨-, rfl⟩; rfl) (Nat.le_of_ble_eq_true rfl) ⟨Nat.le_of_ble_eq_true rfl, Nat.le_of_ble_eq_true rfl⟩ (pc' := 35) rfl ?_
        rintro rv w ⟨rfl, rfl⟩
        show mm_Wp _ _ _ _ 35 [(0, .ref 0), (1, .int v1), (2, .int v2), (3, .int v3)] [] (W_X8 q_textSize q_cursor q_start q_token q_number q_word q_fault q_line q_foundPains q_foundLine q_deadMany q_deadSize q_deadLeast q_deadMost q_st q_before q_kept q_isKept q_refused q_text q_ones q_said t32 q_least q_made q_enough q_isWanted q_column q_foundColumn q_walls q_wallMany q_chosen)
        clear h32
        refine mm_iconst dX8_bought_35 ki_0 (pc' := 36) rfl ?_
        refine mm_istore dX8_bought_36 (by decide) (l' := [(4, .int (0 : Int32)), (0, .ref 0), (1, .int v1), (2, .int v2), (3, .int v3)]) rfl (pc' := 38) rfl ?_
        exact mm_sub [1, 2, 3, 4, 0] rfl (s_X8_bought_L38  _ _ _ _ h)
      · replace h := mm_it h c
        clear c
        exact mm_sub [0] rfl (s_X8_bought_J24  h)

def P_X8_can (q_textSize : Int32) (q_cursor : Int32) (q_start : Int32) (q_token : Int32) (q_number : Int32) (q_word : Int64) (q_fault : Int32) (q_deadMany : Int32) (q_deadSize : Int32) (q_deadLeast : Int32) (q_deadMost : Int32) (q_st : Nat → Int32) (q_before : Nat → Int32) (q_kept : Nat → Int32) (q_isKept : Nat → Int32) (q_text : Nat → Int32) (q_ones : Nat → Int32) (q_said : Nat → Int32) (q_enough : Nat → Int32) (q_isWanted : Nat → Int32) (q_walls : Nat → Int64) (q_wallMany : Nat → Int32) (q_chosen : Nat → Int32) (r : Int32 × Int32 × Int32 × Int32 × (Nat → Int32) × (Nat → Int32) × (Nat → Int32) × (Nat → Int32) × (Nat → Int32) × (Nat → Int32)) : Option Value → mm_W → Prop := fun rv w => rv = some (.int r.1) ∧ w = (W_X8 q_textSize q_cursor q_start q_token q_number q_word q_fault r.2.1 r.2.2.1 r.2.2.2.1 q_deadMany q_deadSize q_deadLeast q_deadMost q_st q_before q_kept q_isKept r.2.2.2.2.1 q_text q_ones q_said r.2.2.2.2.2.1 r.2.2.2.2.2.2.1 r.2.2.2.2.2.2.2.1 q_enough q_isWanted r.2.2.2.2.2.2.2.2.1 r.2.2.2.2.2.2.2.2.2 q_walls q_wallMany q_chosen)
def X8_can_J16 (fu : Nat)  (q_line : Int32) (q_foundPains : Int32) (q_foundLine : Int32) (q_st : Nat → Int32) (q_refused : Nat → Int32) (q_ones : Nat → Int32) (q_readTable : Nat → Int32) (q_least : Nat → Int32) (q_made : Nat → Int32) (q_column : Nat → Int32) (q_foundColumn : Nat → Int32)   : Option (Int32 × Int32 × Int32 × Int32 × (Nat → Int32) × (Nat → Int32) × (Nat → Int32) × (Nat → Int32) × (Nat → Int32) × (Nat → Int32)) := (f_X8_told fu q_refused (-2 : Int32)).bind fun t19 => some (t19.1, q_line, q_foundPains, q_foundLine, t19.2, q_readTable, q_least, q_made, q_column, q_foundColumn)
set_option maxHeartbeats 4000000 in
set_option maxRecDepth 100000 in
theorem s_X8_can_J16 {fu : Nat} {q_textSize : Int32} {q_cursor : Int32} {q_start : Int32} {q_token : Int32} {q_number : Int32} {q_word : Int64} {q_fault : Int32} {q_line : Int32} {q_foundPains : Int32} {q_foundLine : Int32} {q_deadMany : Int32} {q_deadSize : Int32} {q_deadLeast : Int32} {q_deadMost : Int32} {q_st : Nat → Int32} {q_before : Nat → Int32} {q_kept : Nat → Int32} {q_isKept : Nat → Int32} {q_refused : Nat → Int32} {q_text : Nat → Int32} {q_ones : Nat → Int32} {q_said : Nat → Int32} {q_readTable : Nat → Int32} {q_least : Nat → Int32} {q_made : Nat → Int32} {q_enough : Nat → Int32} {q_isWanted : Nat → Int32} {q_column : Nat → Int32} {q_foundColumn : Nat → Int32} {q_walls : Nat → Int64} {q_wallMany : Nat → Int32} {q_chosen : Nat → Int32} {r : Int32 × Int32 × Int32 × Int32 × (Nat → Int32) × (Nat → Int32) × (Nat → Int32) × (Nat → Int32) × (Nat → Int32) × (Nat → Int32)} (h : X8_can_J16 fu q_line q_foundPains q_foundLine q_st q_refused q_ones q_readTable q_least q_made q_column q_foundColumn = some r) : mm_Wp mX8_can (mm_R (P_X8_can q_textSize q_cursor q_start q_token q_number q_word q_fault q_deadMany q_deadSize q_deadLeast q_deadMost q_st q_before q_kept q_isKept q_text q_ones q_said q_enough q_isWanted q_walls q_wallMany q_chosen r)) 0 0 16 [(0, .ref 0)] [] (W_X8 q_textSize q_cursor q_start q_token q_number q_word q_fault q_line q_foundPains q_foundLine q_deadMany q_deadSize q_deadLeast q_deadMost q_st q_before q_kept q_isKept q_refused q_text q_ones q_said q_readTable q_least q_made q_enough q_isWanted q_column q_foundColumn q_walls q_wallMany q_chosen) := by
  rw [X8_can_J16] at h
  refine mm_aload_n 0 dX8_can_16 rfl rfl (pc' := 17) rfl ?_
  refine mm_bipush dX8_can_17 kb_m2 (pc' := 19) rfl ?_
  obtain ⟨t19, h19, h⟩ := mm_bd h
  refine mm_call0 (As := [.int (-2 : Int32)]) (rest := []) cV_X8_92 (ok_X8_told h19) ⟨rfl, rfl, Nat.le_of_ble_eq_true rfl, Nat.le_of_ble_eq_true rfl⟩ dX8_can_19 rfl rfl rfl rfl (by rintro _ _ ⟨-, rfl⟩; rfl) (Nat.le_of_ble_eq_true rfl) ⟨Nat.le_of_ble_eq_true rfl, Nat.le_of_ble_eq_true rfl⟩ (pc' := 22) rfl ?_
  rintro rv w ⟨rfl, rfl⟩
  show mm_Wp _ _ _ _ 22 [(0, .ref 0)] [.int t19.1] (W_X8 q_textSize q_cursor q_start q_token q_number q_word q_fault q_line q_foundPains q_foundLine q_deadMany q_deadSize q_deadLeast q_deadMost q_st q_before q_kept q_isKept t19.2 q_text q_ones q_said q_readTable q_least q_made q_enough q_isWanted q_column q_foundColumn q_walls q_wallMany q_chosen)
  clear h19
  have h9 := Option.some.inj h
  subst h9
  exact mm_iret rfl dX8_can_22 ⟨rfl, rfl⟩
def X8_can_J99 (fu : Nat) (rec28 : Int32 → Int32 → Int32 → (Nat → Int32) → (Nat → Int32) → (Nat → Int32) → (Nat → Int32) → (Nat → Int32) → Int32 → Int32 → Option (Int32 × Int32 × Int32 × Int32 × (Nat → Int32) × (Nat → Int32) × (Nat → Int32) × (Nat → Int32) × (Nat → Int32) × (Nat → Int32))) (rec42 : Int32 → Int32 → Int32 → (Nat → Int32) → (Nat → Int32) → (Nat → Int32) → (Nat → Int32) → (Nat → Int32) → Int32 → Int32 → Option (Int32 × Int32 × Int32 × Int32 × (Nat → Int32) × (Nat → Int32) × (Nat → Int32) × (Nat → Int32) × (Nat → Int32) × (Nat → Int32))) (q_line : Int32) (q_foundPains : Int32) (q_foundLine : Int32) (q_st : Nat → Int32) (q_refused : Nat → Int32) (q_ones : Nat → Int32) (q_readTable : Nat → Int32) (q_least : Nat → Int32) (q_made : Nat → Int32) (q_column : Nat → Int32) (q_foundColumn : Nat → Int32) (v1 : Int32) (v2 : Int32) (v4 : Int32) (v5 : Int32) (s0 : Int32) (s1 : Int32) : Option (Int32 × Int32 × Int32 × Int32 × (Nat → Int32) × (Nat → Int32) × (Nat → Int32) × (Nat → Int32) × (Nat → Int32) × (Nat → Int32)) := rec42 q_line q_foundPains q_foundLine q_readTable q_least q_made q_column q_foundColumn (s1 + s0) (v5 + (1 : Int32))
set_option maxHeartbeats 4000000 in
set_option maxRecDepth 100000 in
theorem s_X8_can_J99 {fu : Nat} {q_textSize : Int32} {q_cursor : Int32} {q_start : Int32} {q_token : Int32} {q_number : Int32} {q_word : Int64} {q_fault : Int32} {q_line : Int32} {q_foundPains : Int32} {q_foundLine : Int32} {q_deadMany : Int32} {q_deadSize : Int32} {q_deadLeast : Int32} {q_deadMost : Int32} {q_st : Nat → Int32} {q_before : Nat → Int32} {q_kept : Nat → Int32} {q_isKept : Nat → Int32} {q_refused : Nat → Int32} {q_text : Nat → Int32} {q_ones : Nat → Int32} {q_said : Nat → Int32} {q_readTable : Nat → Int32} {q_least : Nat → Int32} {q_made : Nat → Int32} {q_enough : Nat → Int32} {q_isWanted : Nat → Int32} {q_column : Nat → Int32} {q_foundColumn : Nat → Int32} {q_walls : Nat → Int64} {q_wallMany : Nat → Int32} {q_chosen : Nat → Int32} {r : Int32 × Int32 × Int32 × Int32 × (Nat → Int32) × (Nat → Int32) × (Nat → Int32) × (Nat → Int32) × (Nat → Int32) × (Nat → Int32)} {rec28 : Int32 → Int32 → Int32 → (Nat → Int32) → (Nat → Int32) → (Nat → Int32) → (Nat → Int32) → (Nat → Int32) → Int32 → Int32 → Option (Int32 × Int32 × Int32 × Int32 × (Nat → Int32) × (Nat → Int32) × (Nat → Int32) × (Nat → Int32) × (Nat → Int32) × (Nat → Int32))} {rec42 : Int32 → Int32 → Int32 → (Nat → Int32) → (Nat → Int32) → (Nat → Int32) → (Nat → Int32) → (Nat → Int32) → Int32 → Int32 → Option (Int32 × Int32 × Int32 × Int32 × (Nat → Int32) × (Nat → Int32) × (Nat → Int32) × (Nat → Int32) × (Nat → Int32) × (Nat → Int32))} {v1 : Int32} {v2 : Int32} {v4 : Int32} {v5 : Int32} {s0 : Int32} {s1 : Int32} (hr28 : ∀ (z_q_line : Int32) (z_q_foundPains : Int32) (z_q_foundLine : Int32) (z_q_readTable : Nat → Int32) (z_q_least : Nat → Int32) (z_q_made : Nat → Int32) (z_q_column : Nat → Int32) (z_q_foundColumn : Nat → Int32) (y3 : Int32) (y4 : Int32), rec28 z_q_line z_q_foundPains z_q_foundLine z_q_readTable z_q_least z_q_made z_q_column z_q_foundColumn y3 y4 = some r → mm_Wp mX8_can (mm_R (P_X8_can q_textSize q_cursor q_start q_token q_number q_word q_fault q_deadMany q_deadSize q_deadLeast q_deadMost q_st q_before q_kept q_isKept q_text q_ones q_said q_enough q_isWanted q_walls q_wallMany q_chosen r)) 0 0 28 [(0, .ref 0), (1, .int v1), (2, .int v2), (3, .int y3), (4, .int y4)] [] (W_X8 q_textSize q_cursor q_start q_token q_number q_word q_fault z_q_line z_q_foundPains z_q_foundLine q_deadMany q_deadSize q_deadLeast q_deadMost q_st q_before q_kept q_isKept q_refused q_text q_ones q_said z_q_readTable z_q_least z_q_made q_enough q_isWanted z_q_column z_q_foundColumn q_walls q_wallMany q_chosen)) (hr42 : ∀ (z_q_line : Int32) (z_q_foundPains : Int32) (z_q_foundLine : Int32) (z_q_readTable : Nat → Int32) (z_q_least : Nat → Int32) (z_q_made : Nat → Int32) (z_q_column : Nat → Int32) (z_q_foundColumn : Nat → Int32) (y3 : Int32) (y5 : Int32), rec42 z_q_line z_q_foundPains z_q_foundLine z_q_readTable z_q_least z_q_made z_q_column z_q_foundColumn y3 y5 = some r → mm_Wp mX8_can (mm_R (P_X8_can q_textSize q_cursor q_start q_token q_number q_word q_fault q_deadMany q_deadSize q_deadLeast q_deadMost q_st q_before q_kept q_isKept q_text q_ones q_said q_enough q_isWanted q_walls q_wallMany q_chosen r)) 0 0 42 [(0, .ref 0), (1, .int v1), (2, .int v2), (3, .int y3), (4, .int v4), (5, .int y5)] [] (W_X8 q_textSize q_cursor q_start q_token q_number q_word q_fault z_q_line z_q_foundPains z_q_foundLine q_deadMany q_deadSize q_deadLeast q_deadMost q_st q_before q_kept q_isKept q_refused q_text q_ones q_said z_q_readTable z_q_least z_q_made q_enough q_isWanted z_q_column z_q_foundColumn q_walls q_wallMany q_chosen)) (h : X8_can_J99 fu rec28 rec42 q_line q_foundPains q_foundLine q_st q_refused q_ones q_readTable q_least q_made q_column q_foundColumn v1 v2 v4 v5 s0 s1 = some r) : mm_Wp mX8_can (mm_R (P_X8_can q_textSize q_cursor q_start q_token q_number q_word q_fault q_deadMany q_deadSize q_deadLeast q_deadMost q_st q_before q_kept q_isKept q_text q_ones q_said q_enough q_isWanted q_walls q_wallMany q_chosen r)) 0 0 99 [(0, .ref 0), (1, .int v1), (2, .int v2), (4, .int v4), (5, .int v5)] [.int s0, .int s1] (W_X8 q_textSize q_cursor q_start q_token q_number q_word q_fault q_line q_foundPains q_foundLine q_deadMany q_deadSize q_deadLeast q_deadMost q_st q_before q_kept q_isKept q_refused q_text q_ones q_said q_readTable q_least q_made q_enough q_isWanted q_column q_foundColumn q_walls q_wallMany q_chosen) := by
  rw [X8_can_J99] at h
  refine mm_iadd dX8_can_99 (pc' := 100) rfl ?_
  refine mm_istore_n dX8_can_100 rfl (by decide) (l' := [(3, .int (s1 + s0)), (0, .ref 0), (1, .int v1), (2, .int v2), (4, .int v4), (5, .int v5)]) rfl (pc' := 101) rfl ?_
  refine mm_iinc 5 dX8_can_101 rfl ki_1 (by decide) (l' := [(5, .int (v5 + (1 : Int32))), (3, .int (s1 + s0)), (0, .ref 0), (1, .int v1), (2, .int v2), (4, .int v4)]) rfl (pc' := 104) rfl ?_
  refine mm_goto (tgt := 42) dX8_can_104 (by decide) ?_
  exact mm_sub [2, 3, 4, 1, 5, 0] rfl (hr42 _ _ _ _ _ _ _ _ _ _ h)
def X8_can_J81 (fu : Nat) (rec28 : Int32 → Int32 → Int32 → (Nat → Int32) → (Nat → Int32) → (Nat → Int32) → (Nat → Int32) → (Nat → Int32) → Int32 → Int32 → Option (Int32 × Int32 × Int32 × Int32 × (Nat → Int32) × (Nat → Int32) × (Nat → Int32) × (Nat → Int32) × (Nat → Int32) × (Nat → Int32))) (rec42 : Int32 → Int32 → Int32 → (Nat → Int32) → (Nat → Int32) → (Nat → Int32) → (Nat → Int32) → (Nat → Int32) → Int32 → Int32 → Option (Int32 × Int32 × Int32 × Int32 × (Nat → Int32) × (Nat → Int32) × (Nat → Int32) × (Nat → Int32) × (Nat → Int32) × (Nat → Int32))) (q_line : Int32) (q_foundPains : Int32) (q_foundLine : Int32) (q_st : Nat → Int32) (q_refused : Nat → Int32) (q_ones : Nat → Int32) (q_readTable : Nat → Int32) (q_least : Nat → Int32) (q_made : Nat → Int32) (q_column : Nat → Int32) (q_foundColumn : Nat → Int32) (v1 : Int32) (v2 : Int32) (v3 : Int32) (v4 : Int32) (v5 : Int32) (s0 : Int32) : Option (Int32 × Int32 × Int32 × Int32 × (Nat → Int32) × (Nat → Int32) × (Nat → Int32) × (Nat → Int32) × (Nat → Int32) × (Nat → Int32)) := (f_X8_findWord fu q_line q_foundPains q_foundLine q_st q_ones q_readTable q_least q_made q_column q_foundColumn s0 v2).bind fun t82 => if t82.2.1 = (-1 : Int32) then (X8_can_J99 fu rec28 rec42 t82.1 t82.2.1 t82.2.2.1 q_st q_refused q_ones t82.2.2.2.1 t82.2.2.2.2.1 t82.2.2.2.2.2.1 t82.2.2.2.2.2.2.1 t82.2.2.2.2.2.2.2 v1 v2 v4 v5 (0 : Int32) v3) else (X8_can_J99 fu rec28 rec42 t82.1 t82.2.1 t82.2.2.1 q_st q_refused q_ones t82.2.2.2.1 t82.2.2.2.2.1 t82.2.2.2.2.2.1 t82.2.2.2.2.2.2.1 t82.2.2.2.2.2.2.2 v1 v2 v4 v5 (1 : Int32) v3)
set_option maxHeartbeats 4000000 in
set_option maxRecDepth 100000 in
theorem s_X8_can_J81 {fu : Nat} {q_textSize : Int32} {q_cursor : Int32} {q_start : Int32} {q_token : Int32} {q_number : Int32} {q_word : Int64} {q_fault : Int32} {q_line : Int32} {q_foundPains : Int32} {q_foundLine : Int32} {q_deadMany : Int32} {q_deadSize : Int32} {q_deadLeast : Int32} {q_deadMost : Int32} {q_st : Nat → Int32} {q_before : Nat → Int32} {q_kept : Nat → Int32} {q_isKept : Nat → Int32} {q_refused : Nat → Int32} {q_text : Nat → Int32} {q_ones : Nat → Int32} {q_said : Nat → Int32} {q_readTable : Nat → Int32} {q_least : Nat → Int32} {q_made : Nat → Int32} {q_enough : Nat → Int32} {q_isWanted : Nat → Int32} {q_column : Nat → Int32} {q_foundColumn : Nat → Int32} {q_walls : Nat → Int64} {q_wallMany : Nat → Int32} {q_chosen : Nat → Int32} {r : Int32 × Int32 × Int32 × Int32 × (Nat → Int32) × (Nat → Int32) × (Nat → Int32) × (Nat → Int32) × (Nat → Int32) × (Nat → Int32)} {rec28 : Int32 → Int32 → Int32 → (Nat → Int32) → (Nat → Int32) → (Nat → Int32) → (Nat → Int32) → (Nat → Int32) → Int32 → Int32 → Option (Int32 × Int32 × Int32 × Int32 × (Nat → Int32) × (Nat → Int32) × (Nat → Int32) × (Nat → Int32) × (Nat → Int32) × (Nat → Int32))} {rec42 : Int32 → Int32 → Int32 → (Nat → Int32) → (Nat → Int32) → (Nat → Int32) → (Nat → Int32) → (Nat → Int32) → Int32 → Int32 → Option (Int32 × Int32 × Int32 × Int32 × (Nat → Int32) × (Nat → Int32) × (Nat → Int32) × (Nat → Int32) × (Nat → Int32) × (Nat → Int32))} {v1 : Int32} {v2 : Int32} {v3 : Int32} {v4 : Int32} {v5 : Int32} {s0 : Int32} (hr28 : ∀ (z_q_line : Int32) (z_q_foundPains : Int32) (z_q_foundLine : Int32) (z_q_readTable : Nat → Int32) (z_q_least : Nat → Int32) (z_q_made : Nat → Int32) (z_q_column : Nat → Int32) (z_q_foundColumn : Nat → Int32) (y3 : Int32) (y4 : Int32), rec28 z_q_line z_q_foundPains z_q_foundLine z_q_readTable z_q_least z_q_made z_q_column z_q_foundColumn y3 y4 = some r → mm_Wp mX8_can (mm_R (P_X8_can q_textSize q_cursor q_start q_token q_number q_word q_fault q_deadMany q_deadSize q_deadLeast q_deadMost q_st q_before q_kept q_isKept q_text q_ones q_said q_enough q_isWanted q_walls q_wallMany q_chosen r)) 0 0 28 [(0, .ref 0), (1, .int v1), (2, .int v2), (3, .int y3), (4, .int y4)] [] (W_X8 q_textSize q_cursor q_start q_token q_number q_word q_fault z_q_line z_q_foundPains z_q_foundLine q_deadMany q_deadSize q_deadLeast q_deadMost q_st q_before q_kept q_isKept q_refused q_text q_ones q_said z_q_readTable z_q_least z_q_made q_enough q_isWanted z_q_column z_q_foundColumn q_walls q_wallMany q_chosen)) (hr42 : ∀ (z_q_line : Int32) (z_q_foundPains : Int32) (z_q_foundLine : Int32) (z_q_readTable : Nat → Int32) (z_q_least : Nat → Int32) (z_q_made : Nat → Int32) (z_q_column : Nat → Int32) (z_q_foundColumn : Nat → Int32) (y3 : Int32) (y5 : Int32), rec42 z_q_line z_q_foundPains z_q_foundLine z_q_readTable z_q_least z_q_made z_q_column z_q_foundColumn y3 y5 = some r → mm_Wp mX8_can (mm_R (P_X8_can q_textSize q_cursor q_start q_token q_number q_word q_fault q_deadMany q_deadSize q_deadLeast q_deadMost q_st q_before q_kept q_isKept q_text q_ones q_said q_enough q_isWanted q_walls q_wallMany q_chosen r)) 0 0 42 [(0, .ref 0), (1, .int v1), (2, .int v2), (3, .int y3), (4, .int v4), (5, .int y5)] [] (W_X8 q_textSize q_cursor q_start q_token q_number q_word q_fault z_q_line z_q_foundPains z_q_foundLine q_deadMany q_deadSize q_deadLeast q_deadMost q_st q_before q_kept q_isKept q_refused q_text q_ones q_said z_q_readTable z_q_least z_q_made q_enough q_isWanted z_q_column z_q_foundColumn q_walls q_wallMany q_chosen)) (h : X8_can_J81 fu rec28 rec42 q_line q_foundPains q_foundLine q_st q_refused q_ones q_readTable q_least q_made q_column q_foundColumn v1 v2 v3 v4 v5 s0 = some r) : mm_Wp mX8_can (mm_R (P_X8_can q_textSize q_cursor q_start q_token q_number q_word q_fault q_deadMany q_deadSize q_deadLeast q_deadMost q_st q_before q_kept q_isKept q_text q_ones q_said q_enough q_isWanted q_walls q_wallMany q_chosen r)) 0 0 81 [(0, .ref 0), (1, .int v1), (2, .int v2), (3, .int v3), (4, .int v4), (5, .int v5)] [.int s0, .ref 0] (W_X8 q_textSize q_cursor q_start q_token q_number q_word q_fault q_line q_foundPains q_foundLine q_deadMany q_deadSize q_deadLeast q_deadMost q_st q_before q_kept q_isKept q_refused q_text q_ones q_said q_readTable q_least q_made q_enough q_isWanted q_column q_foundColumn q_walls q_wallMany q_chosen) := by
  rw [X8_can_J81] at h
  refine mm_iload_n 2 dX8_can_81 rfl rfl (pc' := 82) rfl ?_
  obtain ⟨t82, h82, h⟩ := mm_bd h
  refine mm_call0 (As := [.int s0, .int v2]) (rest := []) cV_X8_237 (ok_X8_findWord h82) ⟨rfl, rfl, Nat.le_of_ble_eq_true rfl, Nat.le_of_ble_eq_true rfl⟩ dX8_can_82 rfl rfl rfl rfl (by rintro _ _ ⟨-, rfl⟩; rfl) (Nat.le_of_ble_eq_true rfl) ⟨Nat.le_of_ble_eq_true rfl, Nat.le_of_ble_eq_true rfl⟩ (pc' := 85) rfl ?_
  rintro rv w ⟨rfl, rfl⟩
  show mm_Wp _ _ _ _ 85 [(0, .ref 0), (1, .int v1), (2, .int v2), (3, .int v3), (4, .int v4), (5, .int v5)] [] (W_X8 q_textSize q_cursor q_start q_token q_number q_word q_fault t82.1 t82.2.1 t82.2.2.1 q_deadMany q_deadSize q_deadLeast q_deadMost q_st q_before q_kept q_isKept q_refused q_text q_ones q_said t82.2.2.2.1 t82.2.2.2.2.1 t82.2.2.2.2.2.1 q_enough q_isWanted t82.2.2.2.2.2.2.1 t82.2.2.2.2.2.2.2 q_walls q_wallMany q_chosen)
  clear h82
  refine mm_iload_n 3 dX8_can_85 rfl rfl (pc' := 86) rfl ?_
  refine mm_aload_n 0 dX8_can_86 rfl rfl (pc' := 87) rfl ?_
  refine mm_getf fG_X8_222 dX8_can_87 rfl rfl (pc' := 90) rfl ?_
  refine mm_iconst dX8_can_90 ki_m1 (pc' := 91) rfl ?_
  refine mm_icmp_ne (tgt := 98) dX8_can_91 (by decide) (pc' := 94) rfl (fun c => ?_) (fun c => ?_)
  · replace h := mm_if h c
    clear c
    refine mm_iconst dX8_can_98 ki_1 (pc' := 99) rfl ?_
    exact mm_sub [0, 1, 2, 4, 5] rfl (s_X8_can_J99 (hr28 := hr28) (hr42 := hr42) h)
  · replace h := mm_it h c
    clear c
    refine mm_iconst dX8_can_94 ki_0 (pc' := 95) rfl ?_
    refine mm_goto (tgt := 99) dX8_can_95 (by decide) ?_
    exact mm_sub [0, 1, 2, 4, 5] rfl (s_X8_can_J99 (hr28 := hr28) (hr42 := hr42) h)
def X8_can_J59 (fu : Nat) (rec28 : Int32 → Int32 → Int32 → (Nat → Int32) → (Nat → Int32) → (Nat → Int32) → (Nat → Int32) → (Nat → Int32) → Int32 → Int32 → Option (Int32 × Int32 × Int32 × Int32 × (Nat → Int32) × (Nat → Int32) × (Nat → Int32) × (Nat → Int32) × (Nat → Int32) × (Nat → Int32))) (rec42 : Int32 → Int32 → Int32 → (Nat → Int32) → (Nat → Int32) → (Nat → Int32) → (Nat → Int32) → (Nat → Int32) → Int32 → Int32 → Option (Int32 × Int32 × Int32 × Int32 × (Nat → Int32) × (Nat → Int32) × (Nat → Int32) × (Nat → Int32) × (Nat → Int32) × (Nat → Int32))) (q_line : Int32) (q_foundPains : Int32) (q_foundLine : Int32) (q_st : Nat → Int32) (q_refused : Nat → Int32) (q_ones : Nat → Int32) (q_readTable : Nat → Int32) (q_least : Nat → Int32) (q_made : Nat → Int32) (q_column : Nat → Int32) (q_foundColumn : Nat → Int32) (v1 : Int32) (v2 : Int32) (v3 : Int32) (v4 : Int32) (v5 : Int32) (s0 : Int32) (s1 : Int32) : Option (Int32 × Int32 × Int32 × Int32 × (Nat → Int32) × (Nat → Int32) × (Nat → Int32) × (Nat → Int32) × (Nat → Int32) × (Nat → Int32)) := if s0 < s1 then (rec28 q_line q_foundPains q_foundLine q_readTable q_least q_made q_column q_foundColumn v3 (v4 + (1 : Int32))) else (if v1 = (1 : Int32) then (X8_can_J81 fu rec28 rec42 q_line q_foundPains q_foundLine q_st q_refused q_ones q_readTable q_least q_made q_column q_foundColumn v1 v2 v3 v4 v5 v4) else (X8_can_J81 fu rec28 rec42 q_line q_foundPains q_foundLine q_st q_refused q_ones q_readTable q_least q_made q_column q_foundColumn v1 v2 v3 v4 v5 (((10 : Int32) * v4) + v5)))
set_option maxHeartbeats 4000000 in
set_option maxRecDepth 100000 in
theorem s_X8_can_J59 {fu : Nat} {q_textSize : Int32} {q_cursor : Int32} {q_start : Int32} {q_token : Int32} {q_number : Int32} {q_word : Int64} {q_fault : Int32} {q_line : Int32} {q_foundPains : Int32} {q_foundLine : Int32} {q_deadMany : Int32} {q_deadSize : Int32} {q_deadLeast : Int32} {q_deadMost : Int32} {q_st : Nat → Int32} {q_before : Nat → Int32} {q_kept : Nat → Int32} {q_isKept : Nat → Int32} {q_refused : Nat → Int32} {q_text : Nat → Int32} {q_ones : Nat → Int32} {q_said : Nat → Int32} {q_readTable : Nat → Int32} {q_least : Nat → Int32} {q_made : Nat → Int32} {q_enough : Nat → Int32} {q_isWanted : Nat → Int32} {q_column : Nat → Int32} {q_foundColumn : Nat → Int32} {q_walls : Nat → Int64} {q_wallMany : Nat → Int32} {q_chosen : Nat → Int32} {r : Int32 × Int32 × Int32 × Int32 × (Nat → Int32) × (Nat → Int32) × (Nat → Int32) × (Nat → Int32) × (Nat → Int32) × (Nat → Int32)} {rec28 : Int32 → Int32 → Int32 → (Nat → Int32) → (Nat → Int32) → (Nat → Int32) → (Nat → Int32) → (Nat → Int32) → Int32 → Int32 → Option (Int32 × Int32 × Int32 × Int32 × (Nat → Int32) × (Nat → Int32) × (Nat → Int32) × (Nat → Int32) × (Nat → Int32) × (Nat → Int32))} {rec42 : Int32 → Int32 → Int32 → (Nat → Int32) → (Nat → Int32) → (Nat → Int32) → (Nat → Int32) → (Nat → Int32) → Int32 → Int32 → Option (Int32 × Int32 × Int32 × Int32 × (Nat → Int32) × (Nat → Int32) × (Nat → Int32) × (Nat → Int32) × (Nat → Int32) × (Nat → Int32))} {v1 : Int32} {v2 : Int32} {v3 : Int32} {v4 : Int32} {v5 : Int32} {s0 : Int32} {s1 : Int32} (hr28 : ∀ (z_q_line : Int32) (z_q_foundPains : Int32) (z_q_foundLine : Int32) (z_q_readTable : Nat → Int32) (z_q_least : Nat → Int32) (z_q_made : Nat → Int32) (z_q_column : Nat → Int32) (z_q_foundColumn : Nat → Int32) (y3 : Int32) (y4 : Int32), rec28 z_q_line z_q_foundPains z_q_foundLine z_q_readTable z_q_least z_q_made z_q_column z_q_foundColumn y3 y4 = some r → mm_Wp mX8_can (mm_R (P_X8_can q_textSize q_cursor q_start q_token q_number q_word q_fault q_deadMany q_deadSize q_deadLeast q_deadMost q_st q_before q_kept q_isKept q_text q_ones q_said q_enough q_isWanted q_walls q_wallMany q_chosen r)) 0 0 28 [(0, .ref 0), (1, .int v1), (2, .int v2), (3, .int y3), (4, .int y4)] [] (W_X8 q_textSize q_cursor q_start q_token q_number q_word q_fault z_q_line z_q_foundPains z_q_foundLine q_deadMany q_deadSize q_deadLeast q_deadMost q_st q_before q_kept q_isKept q_refused q_text q_ones q_said z_q_readTable z_q_least z_q_made q_enough q_isWanted z_q_column z_q_foundColumn q_walls q_wallMany q_chosen)) (hr42 : ∀ (z_q_line : Int32) (z_q_foundPains : Int32) (z_q_foundLine : Int32) (z_q_readTable : Nat → Int32) (z_q_least : Nat → Int32) (z_q_made : Nat → Int32) (z_q_column : Nat → Int32) (z_q_foundColumn : Nat → Int32) (y3 : Int32) (y5 : Int32), rec42 z_q_line z_q_foundPains z_q_foundLine z_q_readTable z_q_least z_q_made z_q_column z_q_foundColumn y3 y5 = some r → mm_Wp mX8_can (mm_R (P_X8_can q_textSize q_cursor q_start q_token q_number q_word q_fault q_deadMany q_deadSize q_deadLeast q_deadMost q_st q_before q_kept q_isKept q_text q_ones q_said q_enough q_isWanted q_walls q_wallMany q_chosen r)) 0 0 42 [(0, .ref 0), (1, .int v1), (2, .int v2), (3, .int y3), (4, .int v4), (5, .int y5)] [] (W_X8 q_textSize q_cursor q_start q_token q_number q_word q_fault z_q_line z_q_foundPains z_q_foundLine q_deadMany q_deadSize q_deadLeast q_deadMost q_st q_before q_kept q_isKept q_refused q_text q_ones q_said z_q_readTable z_q_least z_q_made q_enough q_isWanted z_q_column z_q_foundColumn q_walls q_wallMany q_chosen)) (h : X8_can_J59 fu rec28 rec42 q_line q_foundPains q_foundLine q_st q_refused q_ones q_readTable q_least q_made q_column q_foundColumn v1 v2 v3 v4 v5 s0 s1 = some r) : mm_Wp mX8_can (mm_R (P_X8_can q_textSize q_cursor q_start q_token q_number q_word q_fault q_deadMany q_deadSize q_deadLeast q_deadMost q_st q_before q_kept q_isKept q_text q_ones q_said q_enough q_isWanted q_walls q_wallMany q_chosen r)) 0 0 59 [(0, .ref 0), (1, .int v1), (2, .int v2), (3, .int v3), (4, .int v4), (5, .int v5)] [.int s0, .int s1] (W_X8 q_textSize q_cursor q_start q_token q_number q_word q_fault q_line q_foundPains q_foundLine q_deadMany q_deadSize q_deadLeast q_deadMost q_st q_before q_kept q_isKept q_refused q_text q_ones q_said q_readTable q_least q_made q_enough q_isWanted q_column q_foundColumn q_walls q_wallMany q_chosen) := by
  rw [X8_can_J59] at h
  refine mm_icmp_gt (tgt := 107) dX8_can_59 (by decide) (pc' := 62) rfl (fun c => ?_) (fun c => ?_)
  · replace h := mm_it h c
    clear c
    refine mm_iinc 4 dX8_can_107 rfl ki_1 (by decide) (l' := [(4, .int (v4 + (1 : Int32))), (0, .ref 0), (1, .int v1), (2, .int v2), (3, .int v3), (5, .int v5)]) rfl (pc' := 110) rfl ?_
    refine mm_goto (tgt := 28) dX8_can_110 (by decide) ?_
    exact mm_sub [1, 2, 3, 4, 0] rfl (hr28 _ _ _ _ _ _ _ _ _ _ h)
  · replace h := mm_if h c
    clear c
    refine mm_aload_n 0 dX8_can_62 rfl rfl (pc' := 63) rfl ?_
    refine mm_iload_n 1 dX8_can_63 rfl rfl (pc' := 64) rfl ?_
    refine mm_iconst dX8_can_64 ki_1 (pc' := 65) rfl ?_
    refine mm_icmp_ne (tgt := 73) dX8_can_65 (by decide) (pc' := 68) rfl (fun c => ?_) (fun c => ?_)
    · replace h := mm_if h c
      clear c
      refine mm_bipush dX8_can_73 kb_10 (pc' := 75) rfl ?_
      refine mm_iload 4 dX8_can_75 rfl (pc' := 77) rfl ?_
      refine mm_imul dX8_can_77 (pc' := 78) rfl ?_
      refine mm_iload 5 dX8_can_78 rfl (pc' := 80) rfl ?_
      refine mm_iadd dX8_can_80 (pc' := 81) rfl ?_
      exact s_X8_can_J81 (hr28 := hr28) (hr42 := hr42) h
    · replace h := mm_it h c
      clear c
      refine mm_iload 4 dX8_can_68 rfl (pc' := 70) rfl ?_
      refine mm_goto (tgt := 81) dX8_can_70 (by decide) ?_
      exact s_X8_can_J81 (hr28 := hr28) (hr42 := hr42) h
def X8_can_L42 (fu : Nat) (rec28 : Int32 → Int32 → Int32 → (Nat → Int32) → (Nat → Int32) → (Nat → Int32) → (Nat → Int32) → (Nat → Int32) → Int32 → Int32 → Option (Int32 × Int32 × Int32 × Int32 × (Nat → Int32) × (Nat → Int32) × (Nat → Int32) × (Nat → Int32) × (Nat → Int32) × (Nat → Int32))) (q_st : Nat → Int32) (q_refused : Nat → Int32) (q_ones : Nat → Int32) (v1 : Int32) (v2 : Int32) (v4 : Int32) : Nat → Int32 → Int32 → Int32 → (Nat → Int32) → (Nat → Int32) → (Nat → Int32) → (Nat → Int32) → (Nat → Int32) → Int32 → Int32 → Option (Int32 × Int32 × Int32 × Int32 × (Nat → Int32) × (Nat → Int32) × (Nat → Int32) × (Nat → Int32) × (Nat → Int32) × (Nat → Int32))
  | 0, _, _, _, _, _, _, _, _, _, _ => none
  | n + 1, q_line, q_foundPains, q_foundLine, q_readTable, q_least, q_made, q_column, q_foundColumn, v3, v5 => if v1 = (1 : Int32) then (X8_can_J59 fu rec28 (X8_can_L42 fu rec28 q_st q_refused q_ones v1 v2 v4 n) q_line q_foundPains q_foundLine q_st q_refused q_ones q_readTable q_least q_made q_column q_foundColumn v1 v2 v3 v4 v5 (1 : Int32) v5) else (X8_can_J59 fu rec28 (X8_can_L42 fu rec28 q_st q_refused q_ones v1 v2 v4 n) q_line q_foundPains q_foundLine q_st q_refused q_ones q_readTable q_least q_made q_column q_foundColumn v1 v2 v3 v4 v5 (q_st 3) v5)
set_option maxHeartbeats 4000000 in
set_option maxRecDepth 100000 in
theorem s_X8_can_L42 {fu : Nat} {q_textSize : Int32} {q_cursor : Int32} {q_start : Int32} {q_token : Int32} {q_number : Int32} {q_word : Int64} {q_fault : Int32} {q_deadMany : Int32} {q_deadSize : Int32} {q_deadLeast : Int32} {q_deadMost : Int32} {q_st : Nat → Int32} {q_before : Nat → Int32} {q_kept : Nat → Int32} {q_isKept : Nat → Int32} {q_refused : Nat → Int32} {q_text : Nat → Int32} {q_ones : Nat → Int32} {q_said : Nat → Int32} {q_enough : Nat → Int32} {q_isWanted : Nat → Int32} {q_walls : Nat → Int64} {q_wallMany : Nat → Int32} {q_chosen : Nat → Int32} {r : Int32 × Int32 × Int32 × Int32 × (Nat → Int32) × (Nat → Int32) × (Nat → Int32) × (Nat → Int32) × (Nat → Int32) × (Nat → Int32)} {rec28 : Int32 → Int32 → Int32 → (Nat → Int32) → (Nat → Int32) → (Nat → Int32) → (Nat → Int32) → (Nat → Int32) → Int32 → Int32 → Option (Int32 × Int32 × Int32 × Int32 × (Nat → Int32) × (Nat → Int32) × (Nat → Int32) × (Nat → Int32) × (Nat → Int32) × (Nat → Int32))} {v1 : Int32} {v2 : Int32} {v4 : Int32} (hr28 : ∀ (z_q_line : Int32) (z_q_foundPains : Int32) (z_q_foundLine : Int32) (z_q_readTable : Nat → Int32) (z_q_least : Nat → Int32) (z_q_made : Nat → Int32) (z_q_column : Nat → Int32) (z_q_foundColumn : Nat → Int32) (y3 : Int32) (y4 : Int32), rec28 z_q_line z_q_foundPains z_q_foundLine z_q_readTable z_q_least z_q_made z_q_column z_q_foundColumn y3 y4 = some r → mm_Wp mX8_can (mm_R (P_X8_can q_textSize q_cursor q_start q_token q_number q_word q_fault q_deadMany q_deadSize q_deadLeast q_deadMost q_st q_before q_kept q_isKept q_text q_ones q_said q_enough q_isWanted q_walls q_wallMany q_chosen r)) 0 0 28 [(0, .ref 0), (1, .int v1), (2, .int v2), (3, .int y3), (4, .int y4)] [] (W_X8 q_textSize q_cursor q_start q_token q_number q_word q_fault z_q_line z_q_foundPains z_q_foundLine q_deadMany q_deadSize q_deadLeast q_deadMost q_st q_before q_kept q_isKept q_refused q_text q_ones q_said z_q_readTable z_q_least z_q_made q_enough q_isWanted z_q_column z_q_foundColumn q_walls q_wallMany q_chosen)) : ∀ (n : Nat) (q_line : Int32) (q_foundPains : Int32) (q_foundLine : Int32) (q_readTable : Nat → Int32) (q_least : Nat → Int32) (q_made : Nat → Int32) (q_column : Nat → Int32) (q_foundColumn : Nat → Int32) (v3 : Int32) (v5 : Int32), X8_can_L42 fu rec28 q_st q_refused q_ones v1 v2 v4 n q_line q_foundPains q_foundLine q_readTable q_least q_made q_column q_foundColumn v3 v5 = some r → mm_Wp mX8_can (mm_R (P_X8_can q_textSize q_cursor q_start q_token q_number q_word q_fault q_deadMany q_deadSize q_deadLeast q_deadMost q_st q_before q_kept q_isKept q_text q_ones q_said q_enough q_isWanted q_walls q_wallMany q_chosen r)) 0 0 42 [(0, .ref 0), (1, .int v1), (2, .int v2), (3, .int v3), (4, .int v4), (5, .int v5)] [] (W_X8 q_textSize q_cursor q_start q_token q_number q_word q_fault q_line q_foundPains q_foundLine q_deadMany q_deadSize q_deadLeast q_deadMost q_st q_before q_kept q_isKept q_refused q_text q_ones q_said q_readTable q_least q_made q_enough q_isWanted q_column q_foundColumn q_walls q_wallMany q_chosen) := by
  intro n
  induction n with
  | zero =>
    intro q_line q_foundPains q_foundLine q_readTable q_least q_made q_column q_foundColumn v3 v5 h
    rw [X8_can_L42] at h
    cases h
  | succ n hr42 =>
    intro q_line q_foundPains q_foundLine q_readTable q_least q_made q_column q_foundColumn v3 v5 h
    rw [X8_can_L42] at h
    refine mm_iload 5 dX8_can_42 rfl (pc' := 44) rfl ?_
    refine mm_iload_n 1 dX8_can_44 rfl rfl (pc' := 45) rfl ?_
    refine mm_iconst dX8_can_45 ki_1 (pc' := 46) rfl ?_
    refine mm_icmp_ne (tgt := 53) dX8_can_46 (by decide) (pc' := 49) rfl (fun c => ?_) (fun c => ?_)
    · replace h := mm_if h c
      clear c
      refine mm_aload_n 0 dX8_can_53 rfl rfl (pc' := 54) rfl ?_
      refine mm_getf fG_X8_7 dX8_can_54 rfl rfl (pc' := 57) rfl ?_
      refine mm_iconst dX8_can_57 ki_3 (pc' := 58) rfl ?_
      refine mm_iald dX8_can_58 rfl ki_3_354 (congrArg _ kt_3) (pc' := 59) rfl ?_
      exact s_X8_can_J59 (hr28 := hr28) (hr42 := hr42) h
    · replace h := mm_it h c
      clear c
      refine mm_iconst dX8_can_49 ki_1 (pc' := 50) rfl ?_
      refine mm_goto (tgt := 59) dX8_can_50 (by decide) ?_
      exact s_X8_can_J59 (hr28 := hr28) (hr42 := hr42) h
def X8_can_L28 (fu : Nat)  (q_st : Nat → Int32) (q_refused : Nat → Int32) (q_ones : Nat → Int32) (v1 : Int32) (v2 : Int32) : Nat → Int32 → Int32 → Int32 → (Nat → Int32) → (Nat → Int32) → (Nat → Int32) → (Nat → Int32) → (Nat → Int32) → Int32 → Int32 → Option (Int32 × Int32 × Int32 × Int32 × (Nat → Int32) × (Nat → Int32) × (Nat → Int32) × (Nat → Int32) × (Nat → Int32) × (Nat → Int32))
  | 0, _, _, _, _, _, _, _, _, _, _ => none
  | n + 1, q_line, q_foundPains, q_foundLine, q_readTable, q_least, q_made, q_column, q_foundColumn, v3, v4 => if (q_st 3) < v4 then (some (v3, q_line, q_foundPains, q_foundLine, q_refused, q_readTable, q_least, q_made, q_column, q_foundColumn)) else (X8_can_L42 fu (X8_can_L28 fu q_st q_refused q_ones v1 v2 n) q_st q_refused q_ones v1 v2 v4 fu q_line q_foundPains q_foundLine q_readTable q_least q_made q_column q_foundColumn v3 (1 : Int32))
set_option maxHeartbeats 4000000 in
set_option maxRecDepth 100000 in
theorem s_X8_can_L28 {fu : Nat} {q_textSize : Int32} {q_cursor : Int32} {q_start : Int32} {q_token : Int32} {q_number : Int32} {q_word : Int64} {q_fault : Int32} {q_deadMany : Int32} {q_deadSize : Int32} {q_deadLeast : Int32} {q_deadMost : Int32} {q_st : Nat → Int32} {q_before : Nat → Int32} {q_kept : Nat → Int32} {q_isKept : Nat → Int32} {q_refused : Nat → Int32} {q_text : Nat → Int32} {q_ones : Nat → Int32} {q_said : Nat → Int32} {q_enough : Nat → Int32} {q_isWanted : Nat → Int32} {q_walls : Nat → Int64} {q_wallMany : Nat → Int32} {q_chosen : Nat → Int32} {r : Int32 × Int32 × Int32 × Int32 × (Nat → Int32) × (Nat → Int32) × (Nat → Int32) × (Nat → Int32) × (Nat → Int32) × (Nat → Int32)} {v1 : Int32} {v2 : Int32} : ∀ (n : Nat) (q_line : Int32) (q_foundPains : Int32) (q_foundLine : Int32) (q_readTable : Nat → Int32) (q_least : Nat → Int32) (q_made : Nat → Int32) (q_column : Nat → Int32) (q_foundColumn : Nat → Int32) (v3 : Int32) (v4 : Int32), X8_can_L28 fu q_st q_refused q_ones v1 v2 n q_line q_foundPains q_foundLine q_readTable q_least q_made q_column q_foundColumn v3 v4 = some r → mm_Wp mX8_can (mm_R (P_X8_can q_textSize q_cursor q_start q_token q_number q_word q_fault q_deadMany q_deadSize q_deadLeast q_deadMost q_st q_before q_kept q_isKept q_text q_ones q_said q_enough q_isWanted q_walls q_wallMany q_chosen r)) 0 0 28 [(0, .ref 0), (1, .int v1), (2, .int v2), (3, .int v3), (4, .int v4)] [] (W_X8 q_textSize q_cursor q_start q_token q_number q_word q_fault q_line q_foundPains q_foundLine q_deadMany q_deadSize q_deadLeast q_deadMost q_st q_before q_kept q_isKept q_refused q_text q_ones q_said q_readTable q_least q_made q_enough q_isWanted q_column q_foundColumn q_walls q_wallMany q_chosen) := by
  intro n
  induction n with
  | zero =>
    intro q_line q_foundPains q_foundLine q_readTable q_least q_made q_column q_foundColumn v3 v4 h
    rw [X8_can_L28] at h
    cases h
  | succ n hr28 =>
    intro q_line q_foundPains q_foundLine q_readTable q_least q_made q_column q_foundColumn v3 v4 h
    rw [X8_can_L28] at h
    refine mm_iload 4 dX8_can_28 rfl (pc' := 30) rfl ?_
    refine mm_aload_n 0 dX8_can_30 rfl rfl (pc' := 31) rfl ?_
    refine mm_getf fG_X8_7 dX8_can_31 rfl rfl (pc' := 34) rfl ?_
    refine mm_iconst dX8_can_34 ki_3 (pc' := 35) rfl ?_
    refine mm_iald dX8_can_35 rfl ki_3_354 (congrArg _ kt_3) (pc' := 36) rfl ?_
    refine mm_icmp_gt (tgt := 113) dX8_can_36 (by decide) (pc' := 39) rfl (fun c => ?_) (fun c => ?_)
    · replace h := mm_it h c
      clear c
      refine mm_iload_n 3 dX8_can_113 rfl rfl (pc' := 114) rfl ?_
      have h9 := Option.some.inj h
      subst h9
      exact mm_iret rfl dX8_can_114 ⟨rfl, rfl⟩
    · replace h := mm_if h c
      clear c
      refine mm_iconst dX8_can_39 ki_1 (pc' := 40) rfl ?_
      refine mm_istore dX8_can_40 (by decide) (l' := [(5, .int (1 : Int32)), (0, .ref 0), (1, .int v1), (2, .int v2), (3, .int v3), (4, .int v4)]) rfl (pc' := 42) rfl ?_
      exact mm_sub [1, 2, 3, 4, 5, 0] rfl (s_X8_can_L42 (hr28 := hr28) _ _ _ _ _ _ _ _ _ _ _ h)
def f_X8_can (fu : Nat) (q_line : Int32) (q_foundPains : Int32) (q_foundLine : Int32) (q_st : Nat → Int32) (q_refused : Nat → Int32) (q_ones : Nat → Int32) (q_readTable : Nat → Int32) (q_least : Nat → Int32) (q_made : Nat → Int32) (q_column : Nat → Int32) (q_foundColumn : Nat → Int32) (v1 : Int32) (v2 : Int32) : Option (Int32 × Int32 × Int32 × Int32 × (Nat → Int32) × (Nat → Int32) × (Nat → Int32) × (Nat → Int32) × (Nat → Int32) × (Nat → Int32)) := (f_X8_in fu v1 (1 : Int32) (2 : Int32)).bind fun t3 => if t3 = 0 then (X8_can_J16 fu q_line q_foundPains q_foundLine q_st q_refused q_ones q_readTable q_least q_made q_column q_foundColumn) else ((f_X8_isHour fu v2).bind fun t10 => if t10 = 0 then (X8_can_J16 fu q_line q_foundPains q_foundLine q_st q_refused q_ones q_readTable q_least q_made q_column q_foundColumn) else (X8_can_L28 fu q_st q_refused q_ones v1 v2 fu q_line q_foundPains q_foundLine q_readTable q_least q_made q_column q_foundColumn (0 : Int32) (1 : Int32)))
set_option maxHeartbeats 4000000 in
set_option maxRecDepth 100000 in
theorem ok_X8_can {fu : Nat} {q_textSize : Int32} {q_cursor : Int32} {q_start : Int32} {q_token : Int32} {q_number : Int32} {q_word : Int64} {q_fault : Int32} {q_line : Int32} {q_foundPains : Int32} {q_foundLine : Int32} {q_deadMany : Int32} {q_deadSize : Int32} {q_deadLeast : Int32} {q_deadMost : Int32} {q_st : Nat → Int32} {q_before : Nat → Int32} {q_kept : Nat → Int32} {q_isKept : Nat → Int32} {q_refused : Nat → Int32} {q_text : Nat → Int32} {q_ones : Nat → Int32} {q_said : Nat → Int32} {q_readTable : Nat → Int32} {q_least : Nat → Int32} {q_made : Nat → Int32} {q_enough : Nat → Int32} {q_isWanted : Nat → Int32} {q_column : Nat → Int32} {q_foundColumn : Nat → Int32} {q_walls : Nat → Int64} {q_wallMany : Nat → Int32} {q_chosen : Nat → Int32} {r : Int32 × Int32 × Int32 × Int32 × (Nat → Int32) × (Nat → Int32) × (Nat → Int32) × (Nat → Int32) × (Nat → Int32) × (Nat → Int32)} {v1 : Int32} {v2 : Int32} (h : f_X8_can fu q_line q_foundPains q_foundLine q_st q_refused q_ones q_readTable q_least q_made q_column q_foundColumn v1 v2 = some r) : mm_Ok mX8_can [.ref 0, .int v1, .int v2] (W_X8 q_textSize q_cursor q_start q_token q_number q_word q_fault q_line q_foundPains q_foundLine q_deadMany q_deadSize q_deadLeast q_deadMost q_st q_before q_kept q_isKept q_refused q_text q_ones q_said q_readTable q_least q_made q_enough q_isWanted q_column q_foundColumn q_walls q_wallMany q_chosen) (P_X8_can q_textSize q_cursor q_start q_token q_number q_word q_fault q_deadMany q_deadSize q_deadLeast q_deadMost q_st q_before q_kept q_isKept q_text q_ones q_said q_enough q_isWanted q_walls q_wallMany q_chosen r) := by
  rw [f_X8_can] at h
  refine mm_Ok.of pn_X8 (l := [(0, .ref 0), (1, .int v1), (2, .int v2)]) rfl (Nat.le_of_ble_eq_true rfl) ?_
  refine mm_iload_n 1 dX8_can_0 rfl rfl (pc' := 1) rfl ?_
  refine mm_iconst dX8_can_1 ki_1 (pc' := 2) rfl ?_
  refine mm_iconst dX8_can_2 ki_2 (pc' := 3) rfl ?_
  obtain ⟨t3, h3, h⟩ := mm_bd h
  refine mm_callS (As := [.int v1, .int (1 : Int32), .int (2 : Int32)]) (rest := []) (av := [.int v1, .int (1 : Int32), .int (2 : Int32)]) (wc := []) (is := []) cS_X8_70 (ok_X8_in h3) ⟨rfl, rfl, Nat.le_of_ble_eq_true rfl, Nat.le_of_ble_eq_true rfl⟩ dX8_can_3 rfl rfl rfl ⟨rfl, by decide, by decide⟩ (by rintro _ _ ⟨-, rfl⟩; rfl) (Nat.le_of_ble_eq_true rfl) ⟨Nat.le_of_ble_eq_true rfl, Nat.le_of_ble_eq_true rfl⟩ (pc' := 6) rfl ?_
  rintro rv w ⟨rfl, rfl⟩
  show mm_Wp _ _ _ _ 6 [(0, .ref 0), (1, .int v1), (2, .int v2)] [.int t3] (W_X8 q_textSize q_cursor q_start q_token q_number q_word q_fault q_line q_foundPains q_foundLine q_deadMany q_deadSize q_deadLeast q_deadMost q_st q_before q_kept q_isKept q_refused q_text q_ones q_said q_readTable q_least q_made q_enough q_isWanted q_column q_foundColumn q_walls q_wallMany q_chosen)
  clear h3
  refine mm_if_eq (tgt := 16) dX8_can_6 (by decide) (pc' := 9) rfl (fun c => ?_) (fun c => ?_)
  · replace h := mm_it h c
    clear c
    exact mm_sub [0] rfl (s_X8_can_J16  h)
  · replace h := mm_if h c
    clear c
    refine mm_iload_n 2 dX8_can_9 rfl rfl (pc' := 10) rfl ?_
    obtain ⟨t10, h10, h⟩ := mm_bd h
    refine mm_callS (As := [.int v2]) (rest := []) (av := [.int v2]) (wc := []) (is := []) cS_X8_85 (ok_X8_isHour h10) ⟨rfl, rfl, Nat.le_of_ble_eq_true rfl, Nat.le_of_ble_eq_true rfl⟩ dX8_can_10 rfl rfl rfl ⟨rfl, by decide, by decide⟩ (by rintro _ _ ⟨-, rfl⟩; rfl) (Nat.le_of_ble_eq_true rfl) ⟨Nat.le_of_ble_eq_true rfl, Nat.le_of_ble_eq_true rfl⟩ (pc' := 13) rfl ?_
    rintro rv w ⟨rfl, rfl⟩
    show mm_Wp _ _ _ _ 13 [(0, .ref 0), (1, .int v1), (2, .int v2)] [.int t10] (W_X8 q_textSize q_cursor q_start q_token q_number q_word q_fault q_line q_foundPains q_foundLine q_deadMany q_deadSize q_deadLeast q_deadMost q_st q_before q_kept q_isKept q_refused q_text q_ones q_said q_readTable q_least q_made q_enough q_isWanted q_column q_foundColumn q_walls q_wallMany q_chosen)
    clear h10
    refine mm_if_ne (tgt := 23) dX8_can_13 (by decide) (pc' := 16) rfl (fun c => ?_) (fun c => ?_)
    · replace h := mm_if h c
      clear c
      refine mm_iconst dX8_can_23 ki_0 (pc' := 24) rfl ?_
      refine mm_istore_n dX8_can_24 rfl (by decide) (l' := [(3, .int (0 : Int32)), (0, .ref 0), (1, .int v1), (2, .int v2)]) rfl (pc' := 25) rfl ?_
      refine mm_iconst dX8_can_25 ki_1 (pc' := 26) rfl ?_
      refine mm_istore dX8_can_26 (by decide) (l' := [(4, .int (1 : Int32)), (3, .int (0 : Int32)), (0, .ref 0), (1, .int v1), (2, .int v2)]) rfl (pc' := 28) rfl ?_
      exact mm_sub [2, 3, 4, 1, 0] rfl (s_X8_can_L28  _ _ _ _ _ _ _ _ _ _ _ h)
    · replace h := mm_it h c
      clear c
      exact mm_sub [0] rfl (s_X8_can_J16  h)

def P_X8_bars (q_textSize : Int32) (q_cursor : Int32) (q_start : Int32) (q_token : Int32) (q_number : Int32) (q_word : Int64) (q_fault : Int32) (q_deadMany : Int32) (q_deadSize : Int32) (q_deadLeast : Int32) (q_deadMost : Int32) (q_st : Nat → Int32) (q_before : Nat → Int32) (q_kept : Nat → Int32) (q_isKept : Nat → Int32) (q_text : Nat → Int32) (q_ones : Nat → Int32) (q_said : Nat → Int32) (q_enough : Nat → Int32) (q_isWanted : Nat → Int32) (q_walls : Nat → Int64) (q_wallMany : Nat → Int32) (q_chosen : Nat → Int32) (r : Int32 × Int32 × Int32 × Int32 × (Nat → Int32) × (Nat → Int32) × (Nat → Int32) × (Nat → Int32) × (Nat → Int32) × (Nat → Int32)) : Option Value → mm_W → Prop := fun rv w => rv = some (.int r.1) ∧ w = (W_X8 q_textSize q_cursor q_start q_token q_number q_word q_fault r.2.1 r.2.2.1 r.2.2.2.1 q_deadMany q_deadSize q_deadLeast q_deadMost q_st q_before q_kept q_isKept r.2.2.2.2.1 q_text q_ones q_said r.2.2.2.2.2.1 r.2.2.2.2.2.2.1 r.2.2.2.2.2.2.2.1 q_enough q_isWanted r.2.2.2.2.2.2.2.2.1 r.2.2.2.2.2.2.2.2.2 q_walls q_wallMany q_chosen)
def X8_bars_J15 (fu : Nat)  (q_line : Int32) (q_foundPains : Int32) (q_foundLine : Int32) (q_st : Nat → Int32) (q_refused : Nat → Int32) (q_ones : Nat → Int32) (q_readTable : Nat → Int32) (q_least : Nat → Int32) (q_made : Nat → Int32) (q_column : Nat → Int32) (q_foundColumn : Nat → Int32)   : Option (Int32 × Int32 × Int32 × Int32 × (Nat → Int32) × (Nat → Int32) × (Nat → Int32) × (Nat → Int32) × (Nat → Int32) × (Nat → Int32)) := (f_X8_told fu q_refused (-2 : Int32)).bind fun t18 => some (t18.1, q_line, q_foundPains, q_foundLine, t18.2, q_readTable, q_least, q_made, q_column, q_foundColumn)
set_option maxHeartbeats 4000000 in
set_option maxRecDepth 100000 in
theorem s_X8_bars_J15 {fu : Nat} {q_textSize : Int32} {q_cursor : Int32} {q_start : Int32} {q_token : Int32} {q_number : Int32} {q_word : Int64} {q_fault : Int32} {q_line : Int32} {q_foundPains : Int32} {q_foundLine : Int32} {q_deadMany : Int32} {q_deadSize : Int32} {q_deadLeast : Int32} {q_deadMost : Int32} {q_st : Nat → Int32} {q_before : Nat → Int32} {q_kept : Nat → Int32} {q_isKept : Nat → Int32} {q_refused : Nat → Int32} {q_text : Nat → Int32} {q_ones : Nat → Int32} {q_said : Nat → Int32} {q_readTable : Nat → Int32} {q_least : Nat → Int32} {q_made : Nat → Int32} {q_enough : Nat → Int32} {q_isWanted : Nat → Int32} {q_column : Nat → Int32} {q_foundColumn : Nat → Int32} {q_walls : Nat → Int64} {q_wallMany : Nat → Int32} {q_chosen : Nat → Int32} {r : Int32 × Int32 × Int32 × Int32 × (Nat → Int32) × (Nat → Int32) × (Nat → Int32) × (Nat → Int32) × (Nat → Int32) × (Nat → Int32)} (h : X8_bars_J15 fu q_line q_foundPains q_foundLine q_st q_refused q_ones q_readTable q_least q_made q_column q_foundColumn = some r) : mm_Wp mX8_bars (mm_R (P_X8_bars q_textSize q_cursor q_start q_token q_number q_word q_fault q_deadMany q_deadSize q_deadLeast q_deadMost q_st q_before q_kept q_isKept q_text q_ones q_said q_enough q_isWanted q_walls q_wallMany q_chosen r)) 0 0 15 [(0, .ref 0)] [] (W_X8 q_textSize q_cursor q_start q_token q_number q_word q_fault q_line q_foundPains q_foundLine q_deadMany q_deadSize q_deadLeast q_deadMost q_st q_before q_kept q_isKept q_refused q_text q_ones q_said q_readTable q_least q_made q_enough q_isWanted q_column q_foundColumn q_walls q_wallMany q_chosen) := by
  rw [X8_bars_J15] at h
  refine mm_aload_n 0 dX8_bars_15 rfl rfl (pc' := 16) rfl ?_
  refine mm_bipush dX8_bars_16 kb_m2 (pc' := 18) rfl ?_
  obtain ⟨t18, h18, h⟩ := mm_bd h
  refine mm_call0 (As := [.int (-2 : Int32)]) (rest := []) cV_X8_92 (ok_X8_told h18) ⟨rfl, rfl, Nat.le_of_ble_eq_true rfl, Nat.le_of_ble_eq_true rfl⟩ dX8_bars_18 rfl rfl rfl rfl (by rintro _ _ ⟨-, rfl⟩; rfl) (Nat.le_of_ble_eq_true rfl) ⟨Nat.le_of_ble_eq_true rfl, Nat.le_of_ble_eq_true rfl⟩ (pc' := 21) rfl ?_
  rintro rv w ⟨rfl, rfl⟩
  show mm_Wp _ _ _ _ 21 [(0, .ref 0)] [.int t18.1] (W_X8 q_textSize q_cursor q_start q_token q_number q_word q_fault q_line q_foundPains q_foundLine q_deadMany q_deadSize q_deadLeast q_deadMost q_st q_before q_kept q_isKept t18.2 q_text q_ones q_said q_readTable q_least q_made q_enough q_isWanted q_column q_foundColumn q_walls q_wallMany q_chosen)
  clear h18
  have h9 := Option.some.inj h
  subst h9
  exact mm_iret rfl dX8_bars_21 ⟨rfl, rfl⟩
def X8_bars_J124 (fu : Nat) (rec43 : Int32 → Int32 → Option (Int32 × Int32 × Int32 × Int32 × (Nat → Int32) × (Nat → Int32) × (Nat → Int32) × (Nat → Int32) × (Nat → Int32) × (Nat → Int32))) (q_line : Int32) (q_foundPains : Int32) (q_foundLine : Int32) (q_st : Nat → Int32) (q_refused : Nat → Int32) (q_ones : Nat → Int32) (q_readTable : Nat → Int32) (q_least : Nat → Int32) (q_made : Nat → Int32) (q_column : Nat → Int32) (q_foundColumn : Nat → Int32) (v4 : Int32) (s0 : Int32) (s1 : Int32) : Option (Int32 × Int32 × Int32 × Int32 × (Nat → Int32) × (Nat → Int32) × (Nat → Int32) × (Nat → Int32) × (Nat → Int32) × (Nat → Int32)) := rec43 (s1 ||| s0) (v4 + (1 : Int32))
set_option maxHeartbeats 4000000 in
set_option maxRecDepth 100000 in
theorem s_X8_bars_J124 {fu : Nat} {q_textSize : Int32} {q_cursor : Int32} {q_start : Int32} {q_token : Int32} {q_number : Int32} {q_word : Int64} {q_fault : Int32} {q_line : Int32} {q_foundPains : Int32} {q_foundLine : Int32} {q_deadMany : Int32} {q_deadSize : Int32} {q_deadLeast : Int32} {q_deadMost : Int32} {q_st : Nat → Int32} {q_before : Nat → Int32} {q_kept : Nat → Int32} {q_isKept : Nat → Int32} {q_refused : Nat → Int32} {q_text : Nat → Int32} {q_ones : Nat → Int32} {q_said : Nat → Int32} {q_readTable : Nat → Int32} {q_least : Nat → Int32} {q_made : Nat → Int32} {q_enough : Nat → Int32} {q_isWanted : Nat → Int32} {q_column : Nat → Int32} {q_foundColumn : Nat → Int32} {q_walls : Nat → Int64} {q_wallMany : Nat → Int32} {q_chosen : Nat → Int32} {r : Int32 × Int32 × Int32 × Int32 × (Nat → Int32) × (Nat → Int32) × (Nat → Int32) × (Nat → Int32) × (Nat → Int32) × (Nat → Int32)} {rec43 : Int32 → Int32 → Option (Int32 × Int32 × Int32 × Int32 × (Nat → Int32) × (Nat → Int32) × (Nat → Int32) × (Nat → Int32) × (Nat → Int32) × (Nat → Int32))} {v4 : Int32} {s0 : Int32} {s1 : Int32} (hr43 : ∀ (y3 : Int32) (y4 : Int32), rec43 y3 y4 = some r → mm_Wp mX8_bars (mm_R (P_X8_bars q_textSize q_cursor q_start q_token q_number q_word q_fault q_deadMany q_deadSize q_deadLeast q_deadMost q_st q_before q_kept q_isKept q_text q_ones q_said q_enough q_isWanted q_walls q_wallMany q_chosen r)) 0 0 43 [(0, .ref 0), (3, .int y3), (4, .int y4)] [] (W_X8 q_textSize q_cursor q_start q_token q_number q_word q_fault q_line q_foundPains q_foundLine q_deadMany q_deadSize q_deadLeast q_deadMost q_st q_before q_kept q_isKept q_refused q_text q_ones q_said q_readTable q_least q_made q_enough q_isWanted q_column q_foundColumn q_walls q_wallMany q_chosen)) (h : X8_bars_J124 fu rec43 q_line q_foundPains q_foundLine q_st q_refused q_ones q_readTable q_least q_made q_column q_foundColumn v4 s0 s1 = some r) : mm_Wp mX8_bars (mm_R (P_X8_bars q_textSize q_cursor q_start q_token q_number q_word q_fault q_deadMany q_deadSize q_deadLeast q_deadMost q_st q_before q_kept q_isKept q_text q_ones q_said q_enough q_isWanted q_walls q_wallMany q_chosen r)) 0 0 124 [(0, .ref 0), (4, .int v4)] [.int s0, .int s1] (W_X8 q_textSize q_cursor q_start q_token q_number q_word q_fault q_line q_foundPains q_foundLine q_deadMany q_deadSize q_deadLeast q_deadMost q_st q_before q_kept q_isKept q_refused q_text q_ones q_said q_readTable q_least q_made q_enough q_isWanted q_column q_foundColumn q_walls q_wallMany q_chosen) := by
  rw [X8_bars_J124] at h
  refine mm_ior dX8_bars_124 (pc' := 125) rfl ?_
  refine mm_istore_n dX8_bars_125 rfl (by decide) (l' := [(3, .int (s1 ||| s0)), (0, .ref 0), (4, .int v4)]) rfl (pc' := 126) rfl ?_
  refine mm_iinc 2 dX8_bars_126 rfl ki_1 (by decide) (l' := [(4, .int (v4 + (1 : Int32))), (3, .int (s1 ||| s0)), (0, .ref 0)]) rfl (pc' := 129) rfl ?_
  refine mm_goto (tgt := 43) dX8_bars_129 (by decide) ?_
  exact mm_sub [2, 1, 0] rfl (hr43 _ _ h)
def X8_bars_J102 (fu : Nat) (rec43 : Int32 → Int32 → Option (Int32 × Int32 × Int32 × Int32 × (Nat → Int32) × (Nat → Int32) × (Nat → Int32) × (Nat → Int32) × (Nat → Int32) × (Nat → Int32))) (rec62 : Int32 → Int32 → Option (Int32 × Int32 × Int32 × Int32 × (Nat → Int32) × (Nat → Int32) × (Nat → Int32) × (Nat → Int32) × (Nat → Int32) × (Nat → Int32))) (q_line : Int32) (q_foundPains : Int32) (q_foundLine : Int32) (q_st : Nat → Int32) (q_refused : Nat → Int32) (q_ones : Nat → Int32) (q_readTable : Nat → Int32) (q_least : Nat → Int32) (q_made : Nat → Int32) (q_column : Nat → Int32) (q_foundColumn : Nat → Int32) (v3 : Int32) (v4 : Int32) (v6 : Int32) (s0 : Int32) : Option (Int32 × Int32 × Int32 × Int32 × (Nat → Int32) × (Nat → Int32) × (Nat → Int32) × (Nat → Int32) × (Nat → Int32) × (Nat → Int32)) := rec62 s0 (v6 + (1 : Int32))
set_option maxHeartbeats 4000000 in
set_option maxRecDepth 100000 in
theorem s_X8_bars_J102 {fu : Nat} {q_textSize : Int32} {q_cursor : Int32} {q_start : Int32} {q_token : Int32} {q_number : Int32} {q_word : Int64} {q_fault : Int32} {q_line : Int32} {q_foundPains : Int32} {q_foundLine : Int32} {q_deadMany : Int32} {q_deadSize : Int32} {q_deadLeast : Int32} {q_deadMost : Int32} {q_st : Nat → Int32} {q_before : Nat → Int32} {q_kept : Nat → Int32} {q_isKept : Nat → Int32} {q_refused : Nat → Int32} {q_text : Nat → Int32} {q_ones : Nat → Int32} {q_said : Nat → Int32} {q_readTable : Nat → Int32} {q_least : Nat → Int32} {q_made : Nat → Int32} {q_enough : Nat → Int32} {q_isWanted : Nat → Int32} {q_column : Nat → Int32} {q_foundColumn : Nat → Int32} {q_walls : Nat → Int64} {q_wallMany : Nat → Int32} {q_chosen : Nat → Int32} {r : Int32 × Int32 × Int32 × Int32 × (Nat → Int32) × (Nat → Int32) × (Nat → Int32) × (Nat → Int32) × (Nat → Int32) × (Nat → Int32)} {rec43 : Int32 → Int32 → Option (Int32 × Int32 × Int32 × Int32 × (Nat → Int32) × (Nat → Int32) × (Nat → Int32) × (Nat → Int32) × (Nat → Int32) × (Nat → Int32))} {rec62 : Int32 → Int32 → Option (Int32 × Int32 × Int32 × Int32 × (Nat → Int32) × (Nat → Int32) × (Nat → Int32) × (Nat → Int32) × (Nat → Int32) × (Nat → Int32))} {v3 : Int32} {v4 : Int32} {v6 : Int32} {s0 : Int32} (hr43 : ∀ (y3 : Int32) (y4 : Int32), rec43 y3 y4 = some r → mm_Wp mX8_bars (mm_R (P_X8_bars q_textSize q_cursor q_start q_token q_number q_word q_fault q_deadMany q_deadSize q_deadLeast q_deadMost q_st q_before q_kept q_isKept q_text q_ones q_said q_enough q_isWanted q_walls q_wallMany q_chosen r)) 0 0 43 [(0, .ref 0), (3, .int y3), (4, .int y4)] [] (W_X8 q_textSize q_cursor q_start q_token q_number q_word q_fault q_line q_foundPains q_foundLine q_deadMany q_deadSize q_deadLeast q_deadMost q_st q_before q_kept q_isKept q_refused q_text q_ones q_said q_readTable q_least q_made q_enough q_isWanted q_column q_foundColumn q_walls q_wallMany q_chosen)) (hr62 : ∀ (y5 : Int32) (y6 : Int32), rec62 y5 y6 = some r → mm_Wp mX8_bars (mm_R (P_X8_bars q_textSize q_cursor q_start q_token q_number q_word q_fault q_deadMany q_deadSize q_deadLeast q_deadMost q_st q_before q_kept q_isKept q_text q_ones q_said q_enough q_isWanted q_walls q_wallMany q_chosen r)) 0 0 62 [(0, .ref 0), (3, .int v3), (4, .int v4), (5, .int y5), (6, .int y6)] [] (W_X8 q_textSize q_cursor q_start q_token q_number q_word q_fault q_line q_foundPains q_foundLine q_deadMany q_deadSize q_deadLeast q_deadMost q_st q_before q_kept q_isKept q_refused q_text q_ones q_said q_readTable q_least q_made q_enough q_isWanted q_column q_foundColumn q_walls q_wallMany q_chosen)) (h : X8_bars_J102 fu rec43 rec62 q_line q_foundPains q_foundLine q_st q_refused q_ones q_readTable q_least q_made q_column q_foundColumn v3 v4 v6 s0 = some r) : mm_Wp mX8_bars (mm_R (P_X8_bars q_textSize q_cursor q_start q_token q_number q_word q_fault q_deadMany q_deadSize q_deadLeast q_deadMost q_st q_before q_kept q_isKept q_text q_ones q_said q_enough q_isWanted q_walls q_wallMany q_chosen r)) 0 0 102 [(0, .ref 0), (3, .int v3), (4, .int v4), (6, .int v6)] [.int s0] (W_X8 q_textSize q_cursor q_start q_token q_number q_word q_fault q_line q_foundPains q_foundLine q_deadMany q_deadSize q_deadLeast q_deadMost q_st q_before q_kept q_isKept q_refused q_text q_ones q_said q_readTable q_least q_made q_enough q_isWanted q_column q_foundColumn q_walls q_wallMany q_chosen) := by
  rw [X8_bars_J102] at h
  refine mm_istore dX8_bars_102 (by decide) (l' := [(5, .int s0), (0, .ref 0), (3, .int v3), (4, .int v4), (6, .int v6)]) rfl (pc' := 104) rfl ?_
  refine mm_iinc 4 dX8_bars_104 rfl ki_1 (by decide) (l' := [(6, .int (v6 + (1 : Int32))), (5, .int s0), (0, .ref 0), (3, .int v3), (4, .int v4)]) rfl (pc' := 107) rfl ?_
  refine mm_goto (tgt := 62) dX8_bars_107 (by decide) ?_
  exact mm_sub [2, 3, 4, 1, 0] rfl (hr62 _ _ h)
def X8_bars_J97 (fu : Nat) (rec43 : Int32 → Int32 → Option (Int32 × Int32 × Int32 × Int32 × (Nat → Int32) × (Nat → Int32) × (Nat → Int32) × (Nat → Int32) × (Nat → Int32) × (Nat → Int32))) (rec62 : Int32 → Int32 → Option (Int32 × Int32 × Int32 × Int32 × (Nat → Int32) × (Nat → Int32) × (Nat → Int32) × (Nat → Int32) × (Nat → Int32) × (Nat → Int32))) (q_line : Int32) (q_foundPains : Int32) (q_foundLine : Int32) (q_st : Nat → Int32) (q_refused : Nat → Int32) (q_ones : Nat → Int32) (q_readTable : Nat → Int32) (q_least : Nat → Int32) (q_made : Nat → Int32) (q_column : Nat → Int32) (q_foundColumn : Nat → Int32) (v3 : Int32) (v4 : Int32) (v6 : Int32)  : Option (Int32 × Int32 × Int32 × Int32 × (Nat → Int32) × (Nat → Int32) × (Nat → Int32) × (Nat → Int32) × (Nat → Int32) × (Nat → Int32)) := X8_bars_J102 fu rec43 rec62 q_line q_foundPains q_foundLine q_st q_refused q_ones q_readTable q_least q_made q_column q_foundColumn v3 v4 v6 (1 : Int32)
set_option maxHeartbeats 4000000 in
set_option maxRecDepth 100000 in
theorem s_X8_bars_J97 {fu : Nat} {q_textSize : Int32} {q_cursor : Int32} {q_start : Int32} {q_token : Int32} {q_number : Int32} {q_word : Int64} {q_fault : Int32} {q_line : Int32} {q_foundPains : Int32} {q_foundLine : Int32} {q_deadMany : Int32} {q_deadSize : Int32} {q_deadLeast : Int32} {q_deadMost : Int32} {q_st : Nat → Int32} {q_before : Nat → Int32} {q_kept : Nat → Int32} {q_isKept : Nat → Int32} {q_refused : Nat → Int32} {q_text : Nat → Int32} {q_ones : Nat → Int32} {q_said : Nat → Int32} {q_readTable : Nat → Int32} {q_least : Nat → Int32} {q_made : Nat → Int32} {q_enough : Nat → Int32} {q_isWanted : Nat → Int32} {q_column : Nat → Int32} {q_foundColumn : Nat → Int32} {q_walls : Nat → Int64} {q_wallMany : Nat → Int32} {q_chosen : Nat → Int32} {r : Int32 × Int32 × Int32 × Int32 × (Nat → Int32) × (Nat → Int32) × (Nat → Int32) × (Nat → Int32) × (Nat → Int32) × (Nat → Int32)} {rec43 : Int32 → Int32 → Option (Int32 × Int32 × Int32 × Int32 × (Nat → Int32) × (Nat → Int32) × (Nat → Int32) × (Nat → Int32) × (Nat → Int32) × (Nat → Int32))} {rec62 : Int32 → Int32 → Option (Int32 × Int32 × Int32 × Int32 × (Nat → Int32) × (Nat → Int32) × (Nat → Int32) × (Nat → Int32) × (Nat → Int32) × (Nat → Int32))} {v3 : Int32} {v4 : Int32} {v6 : Int32} (hr43 : ∀ (y3 : Int32) (y4 : Int32), rec43 y3 y4 = some r → mm_Wp mX8_bars (mm_R (P_X8_bars q_textSize q_cursor q_start q_token q_number q_word q_fault q_deadMany q_deadSize q_deadLeast q_deadMost q_st q_before q_kept q_isKept q_text q_ones q_said q_enough q_isWanted q_walls q_wallMany q_chosen r)) 0 0 43 [(0, .ref 0), (3, .int y3), (4, .int y4)] [] (W_X8 q_textSize q_cursor q_start q_token q_number q_word q_fault q_line q_foundPains q_foundLine q_deadMany q_deadSize q_deadLeast q_deadMost q_st q_before q_kept q_isKept q_refused q_text q_ones q_said q_readTable q_least q_made q_enough q_isWanted q_column q_foundColumn q_walls q_wallMany q_chosen)) (hr62 : ∀ (y5 : Int32) (y6 : Int32), rec62 y5 y6 = some r → mm_Wp mX8_bars (mm_R (P_X8_bars q_textSize q_cursor q_start q_token q_number q_word q_fault q_deadMany q_deadSize q_deadLeast q_deadMost q_st q_before q_kept q_isKept q_text q_ones q_said q_enough q_isWanted q_walls q_wallMany q_chosen r)) 0 0 62 [(0, .ref 0), (3, .int v3), (4, .int v4), (5, .int y5), (6, .int y6)] [] (W_X8 q_textSize q_cursor q_start q_token q_number q_word q_fault q_line q_foundPains q_foundLine q_deadMany q_deadSize q_deadLeast q_deadMost q_st q_before q_kept q_isKept q_refused q_text q_ones q_said q_readTable q_least q_made q_enough q_isWanted q_column q_foundColumn q_walls q_wallMany q_chosen)) (h : X8_bars_J97 fu rec43 rec62 q_line q_foundPains q_foundLine q_st q_refused q_ones q_readTable q_least q_made q_column q_foundColumn v3 v4 v6 = some r) : mm_Wp mX8_bars (mm_R (P_X8_bars q_textSize q_cursor q_start q_token q_number q_word q_fault q_deadMany q_deadSize q_deadLeast q_deadMost q_st q_before q_kept q_isKept q_text q_ones q_said q_enough q_isWanted q_walls q_wallMany q_chosen r)) 0 0 97 [(0, .ref 0), (3, .int v3), (4, .int v4), (6, .int v6)] [] (W_X8 q_textSize q_cursor q_start q_token q_number q_word q_fault q_line q_foundPains q_foundLine q_deadMany q_deadSize q_deadLeast q_deadMost q_st q_before q_kept q_isKept q_refused q_text q_ones q_said q_readTable q_least q_made q_enough q_isWanted q_column q_foundColumn q_walls q_wallMany q_chosen) := by
  rw [X8_bars_J97] at h
  refine mm_iconst dX8_bars_97 ki_1 (pc' := 98) rfl ?_
  refine mm_goto (tgt := 102) dX8_bars_98 (by decide) ?_
  exact s_X8_bars_J102 (hr43 := hr43) (hr62 := hr62) h
def X8_bars_L62 (fu : Nat) (rec43 : Int32 → Int32 → Option (Int32 × Int32 × Int32 × Int32 × (Nat → Int32) × (Nat → Int32) × (Nat → Int32) × (Nat → Int32) × (Nat → Int32) × (Nat → Int32))) (q_line : Int32) (q_foundPains : Int32) (q_foundLine : Int32) (q_st : Nat → Int32) (q_refused : Nat → Int32) (q_ones : Nat → Int32) (q_readTable : Nat → Int32) (q_least : Nat → Int32) (q_made : Nat → Int32) (q_column : Nat → Int32) (q_foundColumn : Nat → Int32) (v3 : Int32) (v4 : Int32) : Nat → Int32 → Int32 → Option (Int32 × Int32 × Int32 × Int32 × (Nat → Int32) × (Nat → Int32) × (Nat → Int32) × (Nat → Int32) × (Nat → Int32) × (Nat → Int32))
  | 0, _, _ => none
  | n + 1, v5, v6 => if (q_st 0) ≤ (v6 + (2 : Int32)) then (if v5 = 0 then (X8_bars_J124 fu rec43 q_line q_foundPains q_foundLine q_st q_refused q_ones q_readTable q_least q_made q_column q_foundColumn v4 ((1 : Int32) <<< (v4 &&& 31)) v3) else (X8_bars_J124 fu rec43 q_line q_foundPains q_foundLine q_st q_refused q_ones q_readTable q_least q_made q_column q_foundColumn v4 (0 : Int32) v3)) else (if v5 = 0 then (mm_rd q_least 72 (((12 : Int32) * v4) + v6) fun x92 => if x92 = (-1 : Int32) then (X8_bars_J102 fu rec43 (X8_bars_L62 fu rec43 q_line q_foundPains q_foundLine q_st q_refused q_ones q_readTable q_least q_made q_column q_foundColumn v3 v4 n) q_line q_foundPains q_foundLine q_st q_refused q_ones q_readTable q_least q_made q_column q_foundColumn v3 v4 v6 (0 : Int32)) else (X8_bars_J97 fu rec43 (X8_bars_L62 fu rec43 q_line q_foundPains q_foundLine q_st q_refused q_ones q_readTable q_least q_made q_column q_foundColumn v3 v4 n) q_line q_foundPains q_foundLine q_st q_refused q_ones q_readTable q_least q_made q_column q_foundColumn v3 v4 v6)) else (X8_bars_J97 fu rec43 (X8_bars_L62 fu rec43 q_line q_foundPains q_foundLine q_st q_refused q_ones q_readTable q_least q_made q_column q_foundColumn v3 v4 n) q_line q_foundPains q_foundLine q_st q_refused q_ones q_readTable q_least q_made q_column q_foundColumn v3 v4 v6))
set_option maxHeartbeats 4000000 in
set_option maxRecDepth 100000 in
theorem s_X8_bars_L62 {fu : Nat} {q_textSize : Int32} {q_cursor : Int32} {q_start : Int32} {q_token : Int32} {q_number : Int32} {q_word : Int64} {q_fault : Int32} {q_line : Int32} {q_foundPains : Int32} {q_foundLine : Int32} {q_deadMany : Int32} {q_deadSize : Int32} {q_deadLeast : Int32} {q_deadMost : Int32} {q_st : Nat → Int32} {q_before : Nat → Int32} {q_kept : Nat → Int32} {q_isKept : Nat → Int32} {q_refused : Nat → Int32} {q_text : Nat → Int32} {q_ones : Nat → Int32} {q_said : Nat → Int32} {q_readTable : Nat → Int32} {q_least : Nat → Int32} {q_made : Nat → Int32} {q_enough : Nat → Int32} {q_isWanted : Nat → Int32} {q_column : Nat → Int32} {q_foundColumn : Nat → Int32} {q_walls : Nat → Int64} {q_wallMany : Nat → Int32} {q_chosen : Nat → Int32} {r : Int32 × Int32 × Int32 × Int32 × (Nat → Int32) × (Nat → Int32) × (Nat → Int32) × (Nat → Int32) × (Nat → Int32) × (Nat → Int32)} {rec43 : Int32 → Int32 → Option (Int32 × Int32 × Int32 × Int32 × (Nat → Int32) × (Nat → Int32) × (Nat → Int32) × (Nat → Int32) × (Nat → Int32) × (Nat → Int32))} {v3 : Int32} {v4 : Int32} (hr43 : ∀ (y3 : Int32) (y4 : Int32), rec43 y3 y4 = some r → mm_Wp mX8_bars (mm_R (P_X8_bars q_textSize q_cursor q_start q_token q_number q_word q_fault q_deadMany q_deadSize q_deadLeast q_deadMost q_st q_before q_kept q_isKept q_text q_ones q_said q_enough q_isWanted q_walls q_wallMany q_chosen r)) 0 0 43 [(0, .ref 0), (3, .int y3), (4, .int y4)] [] (W_X8 q_textSize q_cursor q_start q_token q_number q_word q_fault q_line q_foundPains q_foundLine q_deadMany q_deadSize q_deadLeast q_deadMost q_st q_before q_kept q_isKept q_refused q_text q_ones q_said q_readTable q_least q_made q_enough q_isWanted q_column q_foundColumn q_walls q_wallMany q_chosen)) : ∀ (n : Nat) (v5 : Int32) (v6 : Int32), X8_bars_L62 fu rec43 q_line q_foundPains q_foundLine q_st q_refused q_ones q_readTable q_least q_made q_column q_foundColumn v3 v4 n v5 v6 = some r → mm_Wp mX8_bars (mm_R (P_X8_bars q_textSize q_cursor q_start q_token q_number q_word q_fault q_deadMany q_deadSize q_deadLeast q_deadMost q_st q_before q_kept q_isKept q_text q_ones q_said q_enough q_isWanted q_walls q_wallMany q_chosen r)) 0 0 62 [(0, .ref 0), (3, .int v3), (4, .int v4), (5, .int v5), (6, .int v6)] [] (W_X8 q_textSize q_cursor q_start q_token q_number q_word q_fault q_line q_foundPains q_foundLine q_deadMany q_deadSize q_deadLeast q_deadMost q_st q_before q_kept q_isKept q_refused q_text q_ones q_said q_readTable q_least q_made q_enough q_isWanted q_column q_foundColumn q_walls q_wallMany q_chosen) := by
  intro n
  induction n with
  | zero =>
    intro v5 v6 h
    rw [X8_bars_L62] at h
    cases h
  | succ n hr62 =>
    intro v5 v6 h
    rw [X8_bars_L62] at h
    refine mm_iload 4 dX8_bars_62 rfl (pc' := 64) rfl ?_
    refine mm_iconst dX8_bars_64 ki_2 (pc' := 65) rfl ?_
    refine mm_iadd dX8_bars_65 (pc' := 66) rfl ?_
    refine mm_aload_n 0 dX8_bars_66 rfl rfl (pc' := 67) rfl ?_
    refine mm_getf fG_X8_7 dX8_bars_67 rfl rfl (pc' := 70) rfl ?_
    refine mm_iconst dX8_bars_70 ki_0 (pc' := 71) rfl ?_
    refine mm_iald dX8_bars_71 rfl ki_0_354 (congrArg _ kt_0) (pc' := 72) rfl ?_
    refine mm_icmp_ge (tgt := 110) dX8_bars_72 (by decide) (pc' := 75) rfl (fun c => ?_) (fun c => ?_)
    · replace h := mm_it h c
      clear c
      refine mm_iload_n 1 dX8_bars_110 rfl rfl (pc' := 111) rfl ?_
      refine mm_iload 3 dX8_bars_111 rfl (pc' := 113) rfl ?_
      refine mm_if_eq (tgt := 120) dX8_bars_113 (by decide) (pc' := 116) rfl (fun c => ?_) (fun c => ?_)
      · replace h := mm_it h c
        clear c
        refine mm_iconst dX8_bars_120 ki_1 (pc' := 121) rfl ?_
        refine mm_iload 2 dX8_bars_121 rfl (pc' := 123) rfl ?_
        refine mm_ishl dX8_bars_123 (pc' := 124) rfl ?_
        exact mm_sub [0, 2] rfl (s_X8_bars_J124 (hr43 := hr43) h)
      · replace h := mm_if h c
        clear c
        refine mm_iconst dX8_bars_116 ki_0 (pc' := 117) rfl ?_
        refine mm_goto (tgt := 124) dX8_bars_117 (by decide) ?_
        exact mm_sub [0, 2] rfl (s_X8_bars_J124 (hr43 := hr43) h)
    · replace h := mm_if h c
      clear c
      refine mm_iload 3 dX8_bars_75 rfl (pc' := 77) rfl ?_
      refine mm_if_ne (tgt := 97) dX8_bars_77 (by decide) (pc' := 80) rfl (fun c => ?_) (fun c => ?_)
      · replace h := mm_if h c
        clear c
        exact mm_sub [0, 1, 2, 4] rfl (s_X8_bars_J97 (hr43 := hr43) (hr62 := hr62) h)
      · replace h := mm_it h c
        clear c
        refine mm_aload_n 0 dX8_bars_80 rfl rfl (pc' := 81) rfl ?_
        refine mm_getf fG_X8_38 dX8_bars_81 rfl rfl (pc' := 84) rfl ?_
        refine mm_bipush dX8_bars_84 kb_12 (pc' := 86) rfl ?_
        refine mm_iload 2 dX8_bars_86 rfl (pc' := 88) rfl ?_
        refine mm_imul dX8_bars_88 (pc' := 89) rfl ?_
        refine mm_iload 4 dX8_bars_89 rfl (pc' := 91) rfl ?_
        refine mm_iadd dX8_bars_91 (pc' := 92) rfl ?_
        obtain ⟨x92, c92, e92, h⟩ := mm_rd_of h
        refine mm_iald dX8_bars_92 rfl c92 e92 (pc' := 93) rfl ?_
        clear c92 e92
        refine mm_iconst dX8_bars_93 ki_m1 (pc' := 94) rfl ?_
        refine mm_icmp_eq (tgt := 101) dX8_bars_94 (by decide) (pc' := 97) rfl (fun c => ?_) (fun c => ?_)
        · replace h := mm_it h c
          clear c
          refine mm_iconst dX8_bars_101 ki_0 (pc' := 102) rfl ?_
          exact mm_sub [0, 1, 2, 4] rfl (s_X8_bars_J102 (hr43 := hr43) (hr62 := hr62) h)
        · replace h := mm_if h c
          clear c
          exact mm_sub [0, 1, 2, 4] rfl (s_X8_bars_J97 (hr43 := hr43) (hr62 := hr62) h)
def X8_bars_L43 (fu : Nat)  (q_line : Int32) (q_foundPains : Int32) (q_foundLine : Int32) (q_st : Nat → Int32) (q_refused : Nat → Int32) (q_ones : Nat → Int32) (q_readTable : Nat → Int32) (q_least : Nat → Int32) (q_made : Nat → Int32) (q_column : Nat → Int32) (q_foundColumn : Nat → Int32)  : Nat → Int32 → Int32 → Option (Int32 × Int32 × Int32 × Int32 × (Nat → Int32) × (Nat → Int32) × (Nat → Int32) × (Nat → Int32) × (Nat → Int32) × (Nat → Int32))
  | 0, _, _ => none
  | n + 1, v3, v4 => if (q_st 1) ≤ (v4 + (3 : Int32)) then (some (v3, q_line, q_foundPains, q_foundLine, q_refused, q_readTable, q_least, q_made, q_column, q_foundColumn)) else (X8_bars_L62 fu (X8_bars_L43 fu q_line q_foundPains q_foundLine q_st q_refused q_ones q_readTable q_least q_made q_column q_foundColumn n) q_line q_foundPains q_foundLine q_st q_refused q_ones q_readTable q_least q_made q_column q_foundColumn v3 v4 fu (0 : Int32) (0 : Int32))
set_option maxHeartbeats 4000000 in
set_option maxRecDepth 100000 in
theorem s_X8_bars_L43 {fu : Nat} {q_textSize : Int32} {q_cursor : Int32} {q_start : Int32} {q_token : Int32} {q_number : Int32} {q_word : Int64} {q_fault : Int32} {q_line : Int32} {q_foundPains : Int32} {q_foundLine : Int32} {q_deadMany : Int32} {q_deadSize : Int32} {q_deadLeast : Int32} {q_deadMost : Int32} {q_st : Nat → Int32} {q_before : Nat → Int32} {q_kept : Nat → Int32} {q_isKept : Nat → Int32} {q_refused : Nat → Int32} {q_text : Nat → Int32} {q_ones : Nat → Int32} {q_said : Nat → Int32} {q_readTable : Nat → Int32} {q_least : Nat → Int32} {q_made : Nat → Int32} {q_enough : Nat → Int32} {q_isWanted : Nat → Int32} {q_column : Nat → Int32} {q_foundColumn : Nat → Int32} {q_walls : Nat → Int64} {q_wallMany : Nat → Int32} {q_chosen : Nat → Int32} {r : Int32 × Int32 × Int32 × Int32 × (Nat → Int32) × (Nat → Int32) × (Nat → Int32) × (Nat → Int32) × (Nat → Int32) × (Nat → Int32)} : ∀ (n : Nat) (v3 : Int32) (v4 : Int32), X8_bars_L43 fu q_line q_foundPains q_foundLine q_st q_refused q_ones q_readTable q_least q_made q_column q_foundColumn n v3 v4 = some r → mm_Wp mX8_bars (mm_R (P_X8_bars q_textSize q_cursor q_start q_token q_number q_word q_fault q_deadMany q_deadSize q_deadLeast q_deadMost q_st q_before q_kept q_isKept q_text q_ones q_said q_enough q_isWanted q_walls q_wallMany q_chosen r)) 0 0 43 [(0, .ref 0), (3, .int v3), (4, .int v4)] [] (W_X8 q_textSize q_cursor q_start q_token q_number q_word q_fault q_line q_foundPains q_foundLine q_deadMany q_deadSize q_deadLeast q_deadMost q_st q_before q_kept q_isKept q_refused q_text q_ones q_said q_readTable q_least q_made q_enough q_isWanted q_column q_foundColumn q_walls q_wallMany q_chosen) := by
  intro n
  induction n with
  | zero =>
    intro v3 v4 h
    rw [X8_bars_L43] at h
    cases h
  | succ n hr43 =>
    intro v3 v4 h
    rw [X8_bars_L43] at h
    refine mm_iload 2 dX8_bars_43 rfl (pc' := 45) rfl ?_
    refine mm_iconst dX8_bars_45 ki_3 (pc' := 46) rfl ?_
    refine mm_iadd dX8_bars_46 (pc' := 47) rfl ?_
    refine mm_aload_n 0 dX8_bars_47 rfl rfl (pc' := 48) rfl ?_
    refine mm_getf fG_X8_7 dX8_bars_48 rfl rfl (pc' := 51) rfl ?_
    refine mm_iconst dX8_bars_51 ki_1 (pc' := 52) rfl ?_
    refine mm_iald dX8_bars_52 rfl ki_1_354 (congrArg _ kt_1) (pc' := 53) rfl ?_
    refine mm_icmp_ge (tgt := 132) dX8_bars_53 (by decide) (pc' := 56) rfl (fun c => ?_) (fun c => ?_)
    · replace h := mm_it h c
      clear c
      refine mm_iload_n 1 dX8_bars_132 rfl rfl (pc' := 133) rfl ?_
      have h9 := Option.some.inj h
      subst h9
      exact mm_iret rfl dX8_bars_133 ⟨rfl, rfl⟩
    · replace h := mm_if h c
      clear c
      refine mm_iconst dX8_bars_56 ki_0 (pc' := 57) rfl ?_
      refine mm_istore dX8_bars_57 (by decide) (l' := [(5, .int (0 : Int32)), (0, .ref 0), (3, .int v3), (4, .int v4)]) rfl (pc' := 59) rfl ?_
      refine mm_iconst dX8_bars_59 ki_0 (pc' := 60) rfl ?_
      refine mm_istore dX8_bars_60 (by decide) (l' := [(6, .int (0 : Int32)), (5, .int (0 : Int32)), (0, .ref 0), (3, .int v3), (4, .int v4)]) rfl (pc' := 62) rfl ?_
      exact mm_sub [2, 3, 4, 1, 0] rfl (s_X8_bars_L62 (hr43 := hr43) _ _ _ h)
def f_X8_bars (fu : Nat) (q_line : Int32) (q_foundPains : Int32) (q_foundLine : Int32) (q_st : Nat → Int32) (q_refused : Nat → Int32) (q_ones : Nat → Int32) (q_readTable : Nat → Int32) (q_least : Nat → Int32) (q_made : Nat → Int32) (q_column : Nat → Int32) (q_foundColumn : Nat → Int32) (v1 : Int32) (v2 : Int32) : Option (Int32 × Int32 × Int32 × Int32 × (Nat → Int32) × (Nat → Int32) × (Nat → Int32) × (Nat → Int32) × (Nat → Int32) × (Nat → Int32)) := (f_X8_isWord fu q_st v1).bind fun t2 => if t2 = 0 then (X8_bars_J15 fu q_line q_foundPains q_foundLine q_st q_refused q_ones q_readTable q_least q_made q_column q_foundColumn) else ((f_X8_isHour fu v2).bind fun t9 => if t9 = 0 then (X8_bars_J15 fu q_line q_foundPains q_foundLine q_st q_refused q_ones q_readTable q_least q_made q_column q_foundColumn) else ((f_X8_findWord fu q_line q_foundPains q_foundLine q_st q_ones q_readTable q_least q_made q_column q_foundColumn v1 v2).bind fun t25 => if t25.2.1 = (-1 : Int32) then (X8_bars_L43 fu t25.1 t25.2.1 t25.2.2.1 q_st q_refused q_ones t25.2.2.2.1 t25.2.2.2.2.1 t25.2.2.2.2.2.1 t25.2.2.2.2.2.2.1 t25.2.2.2.2.2.2.2 fu (0 : Int32) (0 : Int32)) else (some ((-1 : Int32), t25.1, t25.2.1, t25.2.2.1, q_refused, t25.2.2.2.1, t25.2.2.2.2.1, t25.2.2.2.2.2.1, t25.2.2.2.2.2.2.1, t25.2.2.2.2.2.2.2))))
set_option maxHeartbeats 4000000 in
set_option maxRecDepth 100000 in
theorem ok_X8_bars {fu : Nat} {q_textSize : Int32} {q_cursor : Int32} {q_start : Int32} {q_token : Int32} {q_number : Int32} {q_word : Int64} {q_fault : Int32} {q_line : Int32} {q_foundPains : Int32} {q_foundLine : Int32} {q_deadMany : Int32} {q_deadSize : Int32} {q_deadLeast : Int32} {q_deadMost : Int32} {q_st : Nat → Int32} {q_before : Nat → Int32} {q_kept : Nat → Int32} {q_isKept : Nat → Int32} {q_refused : Nat → Int32} {q_text : Nat → Int32} {q_ones : Nat → Int32} {q_said : Nat → Int32} {q_readTable : Nat → Int32} {q_least : Nat → Int32} {q_made : Nat → Int32} {q_enough : Nat → Int32} {q_isWanted : Nat → Int32} {q_column : Nat → Int32} {q_foundColumn : Nat → Int32} {q_walls : Nat → Int64} {q_wallMany : Nat → Int32} {q_chosen : Nat → Int32} {r : Int32 × Int32 × Int32 × Int32 × (Nat → Int32) × (Nat → Int32) × (Nat → Int32) × (Nat → Int32) × (Nat → Int32) × (Nat → Int32)} {v1 : Int32} {v2 : Int32} (h : f_X8_bars fu q_line q_foundPains q_foundLine q_st q_refused q_ones q_readTable q_least q_made q_column q_foundColumn v1 v2 = some r) : mm_Ok mX8_bars [.ref 0, .int v1, .int v2] (W_X8 q_textSize q_cursor q_start q_token q_number q_word q_fault q_line q_foundPains q_foundLine q_deadMany q_deadSize q_deadLeast q_deadMost q_st q_before q_kept q_isKept q_refused q_text q_ones q_said q_readTable q_least q_made q_enough q_isWanted q_column q_foundColumn q_walls q_wallMany q_chosen) (P_X8_bars q_textSize q_cursor q_start q_token q_number q_word q_fault q_deadMany q_deadSize q_deadLeast q_deadMost q_st q_before q_kept q_isKept q_text q_ones q_said q_enough q_isWanted q_walls q_wallMany q_chosen r) := by
  rw [f_X8_bars] at h
  refine mm_Ok.of pn_X8 (l := [(0, .ref 0), (1, .int v1), (2, .int v2)]) rfl (Nat.le_of_ble_eq_true rfl) ?_
  refine mm_aload_n 0 dX8_bars_0 rfl rfl (pc' := 1) rfl ?_
  refine mm_iload_n 1 dX8_bars_1 rfl rfl (pc' := 2) rfl ?_
  obtain ⟨t2, h2, h⟩ := mm_bd h
  refine mm_call0 (As := [.int v1]) (rest := []) cV_X8_234 (ok_X8_isWord h2) ⟨rfl, rfl, Nat.le_of_ble_eq_true rfl, Nat.le_of_ble_eq_true rfl⟩ dX8_bars_2 rfl rfl rfl rfl (by rintro _ _ ⟨-, rfl⟩; rfl) (Nat.le_of_ble_eq_true rfl) ⟨Nat.le_of_ble_eq_true rfl, Nat.le_of_ble_eq_true rfl⟩ (pc' := 5) rfl ?_
  rintro rv w ⟨rfl, rfl⟩
  show mm_Wp _ _ _ _ 5 [(0, .ref 0), (1, .int v1), (2, .int v2)] [.int t2] (W_X8 q_textSize q_cursor q_start q_token q_number q_word q_fault q_line q_foundPains q_foundLine q_deadMany q_deadSize q_deadLeast q_deadMost q_st q_before q_kept q_isKept q_refused q_text q_ones q_said q_readTable q_least q_made q_enough q_isWanted q_column q_foundColumn q_walls q_wallMany q_chosen)
  clear h2
  refine mm_if_eq (tgt := 15) dX8_bars_5 (by decide) (pc' := 8) rfl (fun c => ?_) (fun c => ?_)
  · replace h := mm_it h c
    clear c
    exact mm_sub [0] rfl (s_X8_bars_J15  h)
  · replace h := mm_if h c
    clear c
    refine mm_iload_n 2 dX8_bars_8 rfl rfl (pc' := 9) rfl ?_
    obtain ⟨t9, h9, h⟩ := mm_bd h
    refine mm_callS (As := [.int v2]) (rest := []) (av := [.int v2]) (wc := []) (is := []) cS_X8_85 (ok_X8_isHour h9) ⟨rfl, rfl, Nat.le_of_ble_eq_true rfl, Nat.le_of_ble_eq_true rfl⟩ dX8_bars_9 rfl rfl rfl ⟨rfl, by decide, by decide⟩ (by rintro _ _ ⟨-, rfl⟩; rfl) (Nat.le_of_ble_eq_true rfl) ⟨Nat.le_of_ble_eq_true rfl, Nat.le_of_ble_eq_true rfl⟩ (pc' := 12) rfl ?_
    rintro rv w ⟨rfl, rfl⟩
    show mm_Wp _ _ _ _ 12 [(0, .ref 0), (1, .int v1), (2, .int v2)] [.int t9] (W_X8 q_textSize q_cursor q_start q_token q_number q_word q_fault q_line q_foundPains q_foundLine q_deadMany q_deadSize q_deadLeast q_deadMost q_st q_before q_kept q_isKept q_refused q_text q_ones q_said q_readTable q_least q_made q_enough q_isWanted q_column q_foundColumn q_walls q_wallMany q_chosen)
    clear h9
    refine mm_if_ne (tgt := 22) dX8_bars_12 (by decide) (pc' := 15) rfl (fun c => ?_) (fun c => ?_)
    · replace h := mm_if h c
      clear c
      refine mm_aload_n 0 dX8_bars_22 rfl rfl (pc' := 23) rfl ?_
      refine mm_iload_n 1 dX8_bars_23 rfl rfl (pc' := 24) rfl ?_
      refine mm_iload_n 2 dX8_bars_24 rfl rfl (pc' := 25) rfl ?_
      obtain ⟨t25, h25, h⟩ := mm_bd h
      refine mm_call0 (As := [.int v1, .int v2]) (rest := []) cV_X8_237 (ok_X8_findWord h25) ⟨rfl, rfl, Nat.le_of_ble_eq_true rfl, Nat.le_of_ble_eq_true rfl⟩ dX8_bars_25 rfl rfl rfl rfl (by rintro _ _ ⟨-, rfl⟩; rfl) (Nat.le_of_ble_eq_true rfl) ⟨Nat.le_of_ble_eq_true rfl, Nat.le_of_ble_eq_true rfl⟩ (pc' := 28) rfl ?_
      rintro rv w ⟨rfl, rfl⟩
      show mm_Wp _ _ _ _ 28 [(0, .ref 0), (1, .int v1), (2, .int v2)] [] (W_X8 q_textSize q_cursor q_start q_token q_number q_word q_fault t25.1 t25.2.1 t25.2.2.1 q_deadMany q_deadSize q_deadLeast q_deadMost q_st q_before q_kept q_isKept q_refused q_text q_ones q_said t25.2.2.2.1 t25.2.2.2.2.1 t25.2.2.2.2.2.1 q_enough q_isWanted t25.2.2.2.2.2.2.1 t25.2.2.2.2.2.2.2 q_walls q_wallMany q_chosen)
      clear h25
      refine mm_aload_n 0 dX8_bars_28 rfl rfl (pc' := 29) rfl ?_
      refine mm_getf fG_X8_222 dX8_bars_29 rfl rfl (pc' := 32) rfl ?_
      refine mm_iconst dX8_bars_32 ki_m1 (pc' := 33) rfl ?_
      refine mm_icmp_eq (tgt := 38) dX8_bars_33 (by decide) (pc' := 36) rfl (fun c => ?_) (fun c => ?_)
      · replace h := mm_it h c
        clear c
        refine mm_iconst dX8_bars_38 ki_0 (pc' := 39) rfl ?_
        refine mm_istore_n dX8_bars_39 rfl (by decide) (l' := [(3, .int (0 : Int32)), (0, .ref 0), (1, .int v1), (2, .int v2)]) rfl (pc' := 40) rfl ?_
        refine mm_iconst dX8_bars_40 ki_0 (pc' := 41) rfl ?_
        refine mm_istore dX8_bars_41 (by decide) (l' := [(4, .int (0 : Int32)), (3, .int (0 : Int32)), (0, .ref 0), (1, .int v1), (2, .int v2)]) rfl (pc' := 43) rfl ?_
        exact mm_sub [2, 1, 0] rfl (s_X8_bars_L43  _ _ _ h)
      · replace h := mm_if h c
        clear c
        refine mm_iconst dX8_bars_36 ki_m1 (pc' := 37) rfl ?_
        have h9 := Option.some.inj h
        subst h9
        exact mm_iret rfl dX8_bars_37 ⟨rfl, rfl⟩
    · replace h := mm_it h c
      clear c
      exact mm_sub [0] rfl (s_X8_bars_J15  h)

def P_X8_reading (q_textSize : Int32) (q_cursor : Int32) (q_start : Int32) (q_token : Int32) (q_number : Int32) (q_word : Int64) (q_fault : Int32) (q_line : Int32) (q_foundPains : Int32) (q_foundLine : Int32) (q_deadMany : Int32) (q_deadSize : Int32) (q_deadLeast : Int32) (q_deadMost : Int32) (q_before : Nat → Int32) (q_kept : Nat → Int32) (q_isKept : Nat → Int32) (q_text : Nat → Int32) (q_ones : Nat → Int32) (q_said : Nat → Int32) (q_readTable : Nat → Int32) (q_least : Nat → Int32) (q_made : Nat → Int32) (q_enough : Nat → Int32) (q_isWanted : Nat → Int32) (q_column : Nat → Int32) (q_foundColumn : Nat → Int32) (q_walls : Nat → Int64) (q_wallMany : Nat → Int32) (q_chosen : Nat → Int32) (r : Int32 × (Nat → Int32) × (Nat → Int32)) : Option Value → mm_W → Prop := fun rv w => rv = some (.int r.1) ∧ w = (W_X8 q_textSize q_cursor q_start q_token q_number q_word q_fault q_line q_foundPains q_foundLine q_deadMany q_deadSize q_deadLeast q_deadMost r.2.1 q_before q_kept q_isKept r.2.2 q_text q_ones q_said q_readTable q_least q_made q_enough q_isWanted q_column q_foundColumn q_walls q_wallMany q_chosen)
def X8_reading_J29 (fu : Nat)  (q_st : Nat → Int32) (q_refused : Nat → Int32)   : Option (Int32 × (Nat → Int32) × (Nat → Int32)) := (f_X8_told fu q_refused (-2 : Int32)).bind fun t32 => some (t32.1, q_st, t32.2)
set_option maxHeartbeats 4000000 in
set_option maxRecDepth 100000 in
theorem s_X8_reading_J29 {fu : Nat} {q_textSize : Int32} {q_cursor : Int32} {q_start : Int32} {q_token : Int32} {q_number : Int32} {q_word : Int64} {q_fault : Int32} {q_line : Int32} {q_foundPains : Int32} {q_foundLine : Int32} {q_deadMany : Int32} {q_deadSize : Int32} {q_deadLeast : Int32} {q_deadMost : Int32} {q_st : Nat → Int32} {q_before : Nat → Int32} {q_kept : Nat → Int32} {q_isKept : Nat → Int32} {q_refused : Nat → Int32} {q_text : Nat → Int32} {q_ones : Nat → Int32} {q_said : Nat → Int32} {q_readTable : Nat → Int32} {q_least : Nat → Int32} {q_made : Nat → Int32} {q_enough : Nat → Int32} {q_isWanted : Nat → Int32} {q_column : Nat → Int32} {q_foundColumn : Nat → Int32} {q_walls : Nat → Int64} {q_wallMany : Nat → Int32} {q_chosen : Nat → Int32} {r : Int32 × (Nat → Int32) × (Nat → Int32)} (h : X8_reading_J29 fu q_st q_refused = some r) : mm_Wp mX8_reading (mm_R (P_X8_reading q_textSize q_cursor q_start q_token q_number q_word q_fault q_line q_foundPains q_foundLine q_deadMany q_deadSize q_deadLeast q_deadMost q_before q_kept q_isKept q_text q_ones q_said q_readTable q_least q_made q_enough q_isWanted q_column q_foundColumn q_walls q_wallMany q_chosen r)) 0 0 29 [(0, .ref 0)] [] (W_X8 q_textSize q_cursor q_start q_token q_number q_word q_fault q_line q_foundPains q_foundLine q_deadMany q_deadSize q_deadLeast q_deadMost q_st q_before q_kept q_isKept q_refused q_text q_ones q_said q_readTable q_least q_made q_enough q_isWanted q_column q_foundColumn q_walls q_wallMany q_chosen) := by
  rw [X8_reading_J29] at h
  refine mm_aload_n 0 dX8_reading_29 rfl rfl (pc' := 30) rfl ?_
  refine mm_bipush dX8_reading_30 kb_m2 (pc' := 32) rfl ?_
  obtain ⟨t32, h32, h⟩ := mm_bd h
  refine mm_call0 (As := [.int (-2 : Int32)]) (rest := []) cV_X8_92 (ok_X8_told h32) ⟨rfl, rfl, Nat.le_of_ble_eq_true rfl, Nat.le_of_ble_eq_true rfl⟩ dX8_reading_32 rfl rfl rfl rfl (by rintro _ _ ⟨-, rfl⟩; rfl) (Nat.le_of_ble_eq_true rfl) ⟨Nat.le_of_ble_eq_true rfl, Nat.le_of_ble_eq_true rfl⟩ (pc' := 35) rfl ?_
  rintro rv w ⟨rfl, rfl⟩
  show mm_Wp _ _ _ _ 35 [(0, .ref 0)] [.int t32.1] (W_X8 q_textSize q_cursor q_start q_token q_number q_word q_fault q_line q_foundPains q_foundLine q_deadMany q_deadSize q_deadLeast q_deadMost q_st q_before q_kept q_isKept t32.2 q_text q_ones q_said q_readTable q_least q_made q_enough q_isWanted q_column q_foundColumn q_walls q_wallMany q_chosen)
  clear h32
  have h9 := Option.some.inj h
  subst h9
  exact mm_iret rfl dX8_reading_35 ⟨rfl, rfl⟩
def X8_reading_J36 (fu : Nat)  (q_st : Nat → Int32) (q_refused : Nat → Int32) (v1 : Int32) (v2 : Int32) (v3 : Int32)  : Option (Int32 × (Nat → Int32) × (Nat → Int32)) := if (q_st 4) = (6 : Int32) then ((f_X8_told fu q_refused (-4 : Int32)).bind fun t50 => some (t50.1, q_st, t50.2)) else (mm_let ((336 : Int32) + ((3 : Int32) * (q_st 4))) fun y66 => mm_ck 354 y66 (mm_ck 354 (y66 + (1 : Int32)) (mm_ck 354 (y66 + (2 : Int32)) (some ((((upd (upd (upd (upd q_st y66.toNatClampNeg v1) (y66 + (1 : Int32)).toNatClampNeg v2) (y66 + (2 : Int32)).toNatClampNeg v3) 4 (((upd (upd (upd q_st y66.toNatClampNeg v1) (y66 + (1 : Int32)).toNatClampNeg v2) (y66 + (2 : Int32)).toNatClampNeg v3) 4) + (1 : Int32))) 4) - (1 : Int32)), upd (upd (upd (upd q_st y66.toNatClampNeg v1) (y66 + (1 : Int32)).toNatClampNeg v2) (y66 + (2 : Int32)).toNatClampNeg v3) 4 (((upd (upd (upd q_st y66.toNatClampNeg v1) (y66 + (1 : Int32)).toNatClampNeg v2) (y66 + (2 : Int32)).toNatClampNeg v3) 4) + (1 : Int32)), q_refused)))))
set_option maxHeartbeats 4000000 in
set_option maxRecDepth 100000 in
theorem s_X8_reading_J36 {fu : Nat} {q_textSize : Int32} {q_cursor : Int32} {q_start : Int32} {q_token : Int32} {q_number : Int32} {q_word : Int64} {q_fault : Int32} {q_line : Int32} {q_foundPains : Int32} {q_foundLine : Int32} {q_deadMany : Int32} {q_deadSize : Int32} {q_deadLeast : Int32} {q_deadMost : Int32} {q_st : Nat → Int32} {q_before : Nat → Int32} {q_kept : Nat → Int32} {q_isKept : Nat → Int32} {q_refused : Nat → Int32} {q_text : Nat → Int32} {q_ones : Nat → Int32} {q_said : Nat → Int32} {q_readTable : Nat → Int32} {q_least : Nat → Int32} {q_made : Nat → Int32} {q_enough : Nat → Int32} {q_isWanted : Nat → Int32} {q_column : Nat → Int32} {q_foundColumn : Nat → Int32} {q_walls : Nat → Int64} {q_wallMany : Nat → Int32} {q_chosen : Nat → Int32} {r : Int32 × (Nat → Int32) × (Nat → Int32)} {v1 : Int32} {v2 : Int32} {v3 : Int32} (h : X8_reading_J36 fu q_st q_refused v1 v2 v3 = some r) : mm_Wp mX8_reading (mm_R (P_X8_reading q_textSize q_cursor q_start q_token q_number q_word q_fault q_line q_foundPains q_foundLine q_deadMany q_deadSize q_deadLeast q_deadMost q_before q_kept q_isKept q_text q_ones q_said q_readTable q_least q_made q_enough q_isWanted q_column q_foundColumn q_walls q_wallMany q_chosen r)) 0 0 36 [(0, .ref 0), (1, .int v1), (2, .int v2), (3, .int v3)] [] (W_X8 q_textSize q_cursor q_start q_token q_number q_word q_fault q_line q_foundPains q_foundLine q_deadMany q_deadSize q_deadLeast q_deadMost q_st q_before q_kept q_isKept q_refused q_text q_ones q_said q_readTable q_least q_made q_enough q_isWanted q_column q_foundColumn q_walls q_wallMany q_chosen) := by
  rw [X8_reading_J36] at h
  refine mm_aload_n 0 dX8_reading_36 rfl rfl (pc' := 37) rfl ?_
  refine mm_getf fG_X8_7 dX8_reading_37 rfl rfl (pc' := 40) rfl ?_
  refine mm_iconst dX8_reading_40 ki_4 (pc' := 41) rfl ?_
  refine mm_iald dX8_reading_41 rfl ki_4_354 (congrArg _ kt_4) (pc' := 42) rfl ?_
  refine mm_bipush dX8_reading_42 kb_6 (pc' := 44) rfl ?_
  refine mm_icmp_ne (tgt := 54) dX8_reading_44 (by decide) (pc' := 47) rfl (fun c => ?_) (fun c => ?_)
  · replace h := mm_if h c
    clear c
    refine mm_sipush dX8_reading_54 ks_336 (pc' := 57) rfl ?_
    refine mm_iconst dX8_reading_57 ki_3 (pc' := 58) rfl ?_
    refine mm_aload_n 0 dX8_reading_58 rfl rfl (pc' := 59) rfl ?_
    refine mm_getf fG_X8_7 dX8_reading_59 rfl rfl (pc' := 62) rfl ?_
    refine mm_iconst dX8_reading_62 ki_4 (pc' := 63) rfl ?_
    refine mm_iald dX8_reading_63 rfl ki_4_354 (congrArg _ kt_4) (pc' := 64) rfl ?_
    refine mm_imul dX8_reading_64 (pc' := 65) rfl ?_
    refine mm_iadd dX8_reading_65 (pc' := 66) rfl ?_
    refine mm_topi (fun y66 e => ?_)
    replace h := mm_let_of h y66 e
    clear e
    refine mm_istore dX8_reading_66 (by decide) (l' := [(4, .int y66), (0, .ref 0), (1, .int v1), (2, .int v2), (3, .int v3)]) rfl (pc' := 68) rfl ?_
    refine mm_aload_n 1 dX8_reading_68 rfl rfl (pc' := 69) rfl ?_
    refine mm_getf fG_X8_7 dX8_reading_69 rfl rfl (pc' := 72) rfl ?_
    refine mm_iload 0 dX8_reading_72 rfl (pc' := 74) rfl ?_
    refine mm_iload_n 2 dX8_reading_74 rfl rfl (pc' := 75) rfl ?_
    obtain ⟨c75, h⟩ := mm_ck_of h
    refine mm_iast dX8_reading_75 rfl c75 rfl (ws' := (W_X8 q_textSize q_cursor q_start q_token q_number q_word q_fault q_line q_foundPains q_foundLine q_deadMany q_deadSize q_deadLeast q_deadMost (upd q_st y66.toNatClampNeg v1) q_before q_kept q_isKept q_refused q_text q_ones q_said q_readTable q_least q_made q_enough q_isWanted q_column q_foundColumn q_walls q_wallMany q_chosen)) rfl (pc' := 76) rfl ?_
    clear c75
    refine mm_aload_n 1 dX8_reading_76 rfl rfl (pc' := 77) rfl ?_
    refine mm_getf fG_X8_7 dX8_reading_77 rfl rfl (pc' := 80) rfl ?_
    refine mm_iload 0 dX8_reading_80 rfl (pc' := 82) rfl ?_
    refine mm_iconst dX8_reading_82 ki_1 (pc' := 83) rfl ?_
    refine mm_iadd dX8_reading_83 (pc' := 84) rfl ?_
    refine mm_iload_n 3 dX8_reading_84 rfl rfl (pc' := 85) rfl ?_
    obtain ⟨c85, h⟩ := mm_ck_of h
    refine mm_iast dX8_reading_85 rfl c85 rfl (ws' := (W_X8 q_textSize q_cursor q_start q_token q_number q_word q_fault q_line q_foundPains q_foundLine q_deadMany q_deadSize q_deadLeast q_deadMost (upd (upd q_st y66.toNatClampNeg v1) (y66 + (1 : Int32)).toNatClampNeg v2) q_before q_kept q_isKept q_refused q_text q_ones q_said q_readTable q_least q_made q_enough q_isWanted q_column q_foundColumn q_walls q_wallMany q_chosen)) rfl (pc' := 86) rfl ?_
    clear c85
    refine mm_aload_n 1 dX8_reading_86 rfl rfl (pc' := 87) rfl ?_
    refine mm_getf fG_X8_7 dX8_reading_87 rfl rfl (pc' := 90) rfl ?_
    refine mm_iload 0 dX8_reading_90 rfl (pc' := 92) rfl ?_
    refine mm_iconst dX8_reading_92 ki_2 (pc' := 93) rfl ?_
    refine mm_iadd dX8_reading_93 (pc' := 94) rfl ?_
    refine mm_iload_n 4 dX8_reading_94 rfl rfl (pc' := 95) rfl ?_
    obtain ⟨c95, h⟩ := mm_ck_of h
    refine mm_iast dX8_reading_95 rfl c95 rfl (ws' := (W_X8 q_textSize q_cursor q_start q_token q_number q_word q_fault q_line q_foundPains q_foundLine q_deadMany q_deadSize q_deadLeast q_deadMost (upd (upd (upd q_st y66.toNatClampNeg v1) (y66 + (1 : Int32)).toNatClampNeg v2) (y66 + (2 : Int32)).toNatClampNeg v3) q_before q_kept q_isKept q_refused q_text q_ones q_said q_readTable q_least q_made q_enough q_isWanted q_column q_foundColumn q_walls q_wallMany q_chosen)) rfl (pc' := 96) rfl ?_
    clear c95
    refine mm_aload_n 1 dX8_reading_96 rfl rfl (pc' := 97) rfl ?_
    refine mm_getf fG_X8_7 dX8_reading_97 rfl rfl (pc' := 100) rfl ?_
    refine mm_iconst dX8_reading_100 ki_4 (pc' := 101) rfl ?_
    refine mm_dup2 dX8_reading_101 rfl rfl (pc' := 102) rfl ?_
    refine mm_iald dX8_reading_102 rfl ki_4_354 (congrArg _ kt_4) (pc' := 103) rfl ?_
    refine mm_iconst dX8_reading_103 ki_1 (pc' := 104) rfl ?_
    refine mm_iadd dX8_reading_104 (pc' := 105) rfl ?_
    refine mm_iast dX8_reading_105 rfl ki_4_354 kt_4 (ws' := (W_X8 q_textSize q_cursor q_start q_token q_number q_word q_fault q_line q_foundPains q_foundLine q_deadMany q_deadSize q_deadLeast q_deadMost (upd (upd (upd (upd q_st y66.toNatClampNeg v1) (y66 + (1 : Int32)).toNatClampNeg v2) (y66 + (2 : Int32)).toNatClampNeg v3) 4 (((upd (upd (upd q_st y66.toNatClampNeg v1) (y66 + (1 : Int32)).toNatClampNeg v2) (y66 + (2 : Int32)).toNatClampNeg v3) 4) + (1 : Int32))) q_before q_kept q_isKept q_refused q_text q_ones q_said q_readTable q_least q_made q_enough q_isWanted q_column q_foundColumn q_walls q_wallMany q_chosen)) rfl (pc' := 106) rfl ?_
    refine mm_aload_n 1 dX8_reading_106 rfl rfl (pc' := 107) rfl ?_
    refine mm_getf fG_X8_7 dX8_reading_107 rfl rfl (pc' := 110) rfl ?_
    refine mm_iconst dX8_reading_110 ki_4 (pc' := 111) rfl ?_
    refine mm_iald dX8_reading_111 rfl ki_4_354 (congrArg _ kt_4) (pc' := 112) rfl ?_
    refine mm_iconst dX8_reading_112 ki_1 (pc' := 113) rfl ?_
    refine mm_isub dX8_reading_113 (pc' := 114) rfl ?_
    have h9 := Option.some.inj h
    subst h9
    exact mm_iret rfl dX8_reading_114 ⟨rfl, rfl⟩
  · replace h := mm_it h c
    clear c
    refine mm_aload_n 0 dX8_reading_47 rfl rfl (pc' := 48) rfl ?_
    refine mm_bipush dX8_reading_48 kb_m4 (pc' := 50) rfl ?_
    obtain ⟨t50, h50, h⟩ := mm_bd h
    refine mm_call0 (As := [.int (-4 : Int32)]) (rest := []) cV_X8_92 (ok_X8_told h50) ⟨rfl, rfl, Nat.le_of_ble_eq_true rfl, Nat.le_of_ble_eq_true rfl⟩ dX8_reading_50 rfl rfl rfl rfl (by rintro _ _ ⟨-, rfl⟩; rfl) (Nat.le_of_ble_eq_true rfl) ⟨Nat.le_of_ble_eq_true rfl, Nat.le_of_ble_eq_true rfl⟩ (pc' := 53) rfl ?_
    rintro rv w ⟨rfl, rfl⟩
    show mm_Wp _ _ _ _ 53 [(0, .ref 0), (1, .int v1), (2, .int v2), (3, .int v3)] [.int t50.1] (W_X8 q_textSize q_cursor q_start q_token q_number q_word q_fault q_line q_foundPains q_foundLine q_deadMany q_deadSize q_deadLeast q_deadMost q_st q_before q_kept q_isKept t50.2 q_text q_ones q_said q_readTable q_least q_made q_enough q_isWanted q_column q_foundColumn q_walls q_wallMany q_chosen)
    clear h50
    have h9 := Option.some.inj h
    subst h9
    exact mm_iret rfl dX8_reading_53 ⟨rfl, rfl⟩
def f_X8_reading (fu : Nat) (q_st : Nat → Int32) (q_refused : Nat → Int32) (v1 : Int32) (v2 : Int32) (v3 : Int32) : Option (Int32 × (Nat → Int32) × (Nat → Int32)) := (f_X8_isBox fu q_st v1).bind fun t2 => if t2 = 0 then (X8_reading_J29 fu q_st q_refused) else ((f_X8_isLetter fu q_st v2).bind fun t10 => if t10 = 0 then (X8_reading_J29 fu q_st q_refused) else (if v3 = (-1 : Int32) then (X8_reading_J36 fu q_st q_refused v1 v2 v3) else ((f_X8_isLetter fu q_st v3).bind fun t23 => if t23 = 0 then (X8_reading_J29 fu q_st q_refused) else (X8_reading_J36 fu q_st q_refused v1 v2 v3))))
set_option maxHeartbeats 4000000 in
set_option maxRecDepth 100000 in
theorem ok_X8_reading {fu : Nat} {q_textSize : Int32} {q_cursor : Int32} {q_start : Int32} {q_token : Int32} {q_number : Int32} {q_word : Int64} {q_fault : Int32} {q_line : Int32} {q_foundPains : Int32} {q_foundLine : Int32} {q_deadMany : Int32} {q_deadSize : Int32} {q_deadLeast : Int32} {q_deadMost : Int32} {q_st : Nat → Int32} {q_before : Nat → Int32} {q_kept : Nat → Int32} {q_isKept : Nat → Int32} {q_refused : Nat → Int32} {q_text : Nat → Int32} {q_ones : Nat → Int32} {q_said : Nat → Int32} {q_readTable : Nat → Int32} {q_least : Nat → Int32} {q_made : Nat → Int32} {q_enough : Nat → Int32} {q_isWanted : Nat → Int32} {q_column : Nat → Int32} {q_foundColumn : Nat → Int32} {q_walls : Nat → Int64} {q_wallMany : Nat → Int32} {q_chosen : Nat → Int32} {r : Int32 × (Nat → Int32) × (Nat → Int32)} {v1 : Int32} {v2 : Int32} {v3 : Int32} (h : f_X8_reading fu q_st q_refused v1 v2 v3 = some r) : mm_Ok mX8_reading [.ref 0, .int v1, .int v2, .int v3] (W_X8 q_textSize q_cursor q_start q_token q_number q_word q_fault q_line q_foundPains q_foundLine q_deadMany q_deadSize q_deadLeast q_deadMost q_st q_before q_kept q_isKept q_refused q_text q_ones q_said q_readTable q_least q_made q_enough q_isWanted q_column q_foundColumn q_walls q_wallMany q_chosen) (P_X8_reading q_textSize q_cursor q_start q_token q_number q_word q_fault q_line q_foundPains q_foundLine q_deadMany q_deadSize q_deadLeast q_deadMost q_before q_kept q_isKept q_text q_ones q_said q_readTable q_least q_made q_enough q_isWanted q_column q_foundColumn q_walls q_wallMany q_chosen r) := by
  rw [f_X8_reading] at h
  refine mm_Ok.of pn_X8 (l := [(0, .ref 0), (1, .int v1), (2, .int v2), (3, .int v3)]) rfl (Nat.le_of_ble_eq_true rfl) ?_
  refine mm_aload_n 0 dX8_reading_0 rfl rfl (pc' := 1) rfl ?_
  refine mm_iload_n 1 dX8_reading_1 rfl rfl (pc' := 2) rfl ?_
  obtain ⟨t2, h2, h⟩ := mm_bd h
  refine mm_call0 (As := [.int v1]) (rest := []) cV_X8_189 (ok_X8_isBox h2) ⟨rfl, rfl, Nat.le_of_ble_eq_true rfl, Nat.le_of_ble_eq_true rfl⟩ dX8_reading_2 rfl rfl rfl rfl (by rintro _ _ ⟨-, rfl⟩; rfl) (Nat.le_of_ble_eq_true rfl) ⟨Nat.le_of_ble_eq_true rfl, Nat.le_of_ble_eq_true rfl⟩ (pc' := 5) rfl ?_
  rintro rv w ⟨rfl, rfl⟩
  show mm_Wp _ _ _ _ 5 [(0, .ref 0), (1, .int v1), (2, .int v2), (3, .int v3)] [.int t2] (W_X8 q_textSize q_cursor q_start q_token q_number q_word q_fault q_line q_foundPains q_foundLine q_deadMany q_deadSize q_deadLeast q_deadMost q_st q_before q_kept q_isKept q_refused q_text q_ones q_said q_readTable q_least q_made q_enough q_isWanted q_column q_foundColumn q_walls q_wallMany q_chosen)
  clear h2
  refine mm_if_eq (tgt := 29) dX8_reading_5 (by decide) (pc' := 8) rfl (fun c => ?_) (fun c => ?_)
  · replace h := mm_it h c
    clear c
    exact mm_sub [0] rfl (s_X8_reading_J29  h)
  · replace h := mm_if h c
    clear c
    refine mm_aload_n 0 dX8_reading_8 rfl rfl (pc' := 9) rfl ?_
    refine mm_iload_n 2 dX8_reading_9 rfl rfl (pc' := 10) rfl ?_
    obtain ⟨t10, h10, h⟩ := mm_bd h
    refine mm_call0 (As := [.int v2]) (rest := []) cV_X8_100 (ok_X8_isLetter h10) ⟨rfl, rfl, Nat.le_of_ble_eq_true rfl, Nat.le_of_ble_eq_true rfl⟩ dX8_reading_10 rfl rfl rfl rfl (by rintro _ _ ⟨-, rfl⟩; rfl) (Nat.le_of_ble_eq_true rfl) ⟨Nat.le_of_ble_eq_true rfl, Nat.le_of_ble_eq_true rfl⟩ (pc' := 13) rfl ?_
    rintro rv w ⟨rfl, rfl⟩
    show mm_Wp _ _ _ _ 13 [(0, .ref 0), (1, .int v1), (2, .int v2), (3, .int v3)] [.int t10] (W_X8 q_textSize q_cursor q_start q_token q_number q_word q_fault q_line q_foundPains q_foundLine q_deadMany q_deadSize q_deadLeast q_deadMost q_st q_before q_kept q_isKept q_refused q_text q_ones q_said q_readTable q_least q_made q_enough q_isWanted q_column q_foundColumn q_walls q_wallMany q_chosen)
    clear h10
    refine mm_if_eq (tgt := 29) dX8_reading_13 (by decide) (pc' := 16) rfl (fun c => ?_) (fun c => ?_)
    · replace h := mm_it h c
      clear c
      exact mm_sub [0] rfl (s_X8_reading_J29  h)
    · replace h := mm_if h c
      clear c
      refine mm_iload_n 3 dX8_reading_16 rfl rfl (pc' := 17) rfl ?_
      refine mm_iconst dX8_reading_17 ki_m1 (pc' := 18) rfl ?_
      refine mm_icmp_eq (tgt := 36) dX8_reading_18 (by decide) (pc' := 21) rfl (fun c => ?_) (fun c => ?_)
      · replace h := mm_it h c
        clear c
        exact s_X8_reading_J36  h
      · replace h := mm_if h c
        clear c
        refine mm_aload_n 0 dX8_reading_21 rfl rfl (pc' := 22) rfl ?_
        refine mm_iload_n 3 dX8_reading_22 rfl rfl (pc' := 23) rfl ?_
        obtain ⟨t23, h23, h⟩ := mm_bd h
        refine mm_call0 (As := [.int v3]) (rest := []) cV_X8_100 (ok_X8_isLetter h23) ⟨rfl, rfl, Nat.le_of_ble_eq_true rfl, Nat.le_of_ble_eq_true rfl⟩ dX8_reading_23 rfl rfl rfl rfl (by rintro _ _ ⟨-, rfl⟩; rfl) (Nat.le_of_ble_eq_true rfl) ⟨Nat.le_of_ble_eq_true rfl, Nat.le_of_ble_eq_true rfl⟩ (pc' := 26) rfl ?_
        rintro rv w ⟨rfl, rfl⟩
        show mm_Wp _ _ _ _ 26 [(0, .ref 0), (1, .int v1), (2, .int v2), (3, .int v3)] [.int t23] (W_X8 q_textSize q_cursor q_start q_token q_number q_word q_fault q_line q_foundPains q_foundLine q_deadMany q_deadSize q_deadLeast q_deadMost q_st q_before q_kept q_isKept q_refused q_text q_ones q_said q_readTable q_least q_made q_enough q_isWanted q_column q_foundColumn q_walls q_wallMany q_chosen)
        clear h23
        refine mm_if_ne (tgt := 36) dX8_reading_26 (by decide) (pc' := 29) rfl (fun c => ?_) (fun c => ?_)
        · replace h := mm_if h c
          clear c
          exact s_X8_reading_J36  h
        · replace h := mm_it h c
          clear c
          exact mm_sub [0] rfl (s_X8_reading_J29  h)

def P_X8_unread (q_textSize : Int32) (q_cursor : Int32) (q_start : Int32) (q_token : Int32) (q_number : Int32) (q_word : Int64) (q_fault : Int32) (q_line : Int32) (q_foundPains : Int32) (q_foundLine : Int32) (q_deadMany : Int32) (q_deadSize : Int32) (q_deadLeast : Int32) (q_deadMost : Int32) (q_before : Nat → Int32) (q_kept : Nat → Int32) (q_isKept : Nat → Int32) (q_refused : Nat → Int32) (q_text : Nat → Int32) (q_ones : Nat → Int32) (q_said : Nat → Int32) (q_readTable : Nat → Int32) (q_least : Nat → Int32) (q_made : Nat → Int32) (q_enough : Nat → Int32) (q_isWanted : Nat → Int32) (q_column : Nat → Int32) (q_foundColumn : Nat → Int32) (q_walls : Nat → Int64) (q_wallMany : Nat → Int32) (q_chosen : Nat → Int32) (r : Int32 × (Nat → Int32)) : Option Value → mm_W → Prop := fun rv w => rv = some (.int r.1) ∧ w = (W_X8 q_textSize q_cursor q_start q_token q_number q_word q_fault q_line q_foundPains q_foundLine q_deadMany q_deadSize q_deadLeast q_deadMost r.2 q_before q_kept q_isKept q_refused q_text q_ones q_said q_readTable q_least q_made q_enough q_isWanted q_column q_foundColumn q_walls q_wallMany q_chosen)
def f_X8_unread (fu : Nat) (q_st : Nat → Int32) : Option (Int32 × (Nat → Int32)) := some ((q_st 4), upd q_st 4 (0 : Int32))
set_option maxHeartbeats 4000000 in
set_option maxRecDepth 100000 in
theorem ok_X8_unread {fu : Nat} {q_textSize : Int32} {q_cursor : Int32} {q_start : Int32} {q_token : Int32} {q_number : Int32} {q_word : Int64} {q_fault : Int32} {q_line : Int32} {q_foundPains : Int32} {q_foundLine : Int32} {q_deadMany : Int32} {q_deadSize : Int32} {q_deadLeast : Int32} {q_deadMost : Int32} {q_st : Nat → Int32} {q_before : Nat → Int32} {q_kept : Nat → Int32} {q_isKept : Nat → Int32} {q_refused : Nat → Int32} {q_text : Nat → Int32} {q_ones : Nat → Int32} {q_said : Nat → Int32} {q_readTable : Nat → Int32} {q_least : Nat → Int32} {q_made : Nat → Int32} {q_enough : Nat → Int32} {q_isWanted : Nat → Int32} {q_column : Nat → Int32} {q_foundColumn : Nat → Int32} {q_walls : Nat → Int64} {q_wallMany : Nat → Int32} {q_chosen : Nat → Int32} {r : Int32 × (Nat → Int32)} (h : f_X8_unread fu q_st = some r) : mm_Ok mX8_unread [.ref 0] (W_X8 q_textSize q_cursor q_start q_token q_number q_word q_fault q_line q_foundPains q_foundLine q_deadMany q_deadSize q_deadLeast q_deadMost q_st q_before q_kept q_isKept q_refused q_text q_ones q_said q_readTable q_least q_made q_enough q_isWanted q_column q_foundColumn q_walls q_wallMany q_chosen) (P_X8_unread q_textSize q_cursor q_start q_token q_number q_word q_fault q_line q_foundPains q_foundLine q_deadMany q_deadSize q_deadLeast q_deadMost q_before q_kept q_isKept q_refused q_text q_ones q_said q_readTable q_least q_made q_enough q_isWanted q_column q_foundColumn q_walls q_wallMany q_chosen r) := by
  rw [f_X8_unread] at h
  refine mm_Ok.of pn_X8 (l := [(0, .ref 0)]) rfl (Nat.le_of_ble_eq_true rfl) ?_
  refine mm_aload_n 0 dX8_unread_0 rfl rfl (pc' := 1) rfl ?_
  refine mm_getf fG_X8_7 dX8_unread_1 rfl rfl (pc' := 4) rfl ?_
  refine mm_iconst dX8_unread_4 ki_4 (pc' := 5) rfl ?_
  refine mm_iald dX8_unread_5 rfl ki_4_354 (congrArg _ kt_4) (pc' := 6) rfl ?_
  refine mm_istore_n dX8_unread_6 rfl (by decide) (l' := [(1, .int (q_st 4)), (0, .ref 0)]) rfl (pc' := 7) rfl ?_
  refine mm_aload_n 1 dX8_unread_7 rfl rfl (pc' := 8) rfl ?_
  refine mm_getf fG_X8_7 dX8_unread_8 rfl rfl (pc' := 11) rfl ?_
  refine mm_iconst dX8_unread_11 ki_4 (pc' := 12) rfl ?_
  refine mm_iconst dX8_unread_12 ki_0 (pc' := 13) rfl ?_
  refine mm_iast dX8_unread_13 rfl ki_4_354 kt_4 (ws' := (W_X8 q_textSize q_cursor q_start q_token q_number q_word q_fault q_line q_foundPains q_foundLine q_deadMany q_deadSize q_deadLeast q_deadMost (upd q_st 4 (0 : Int32)) q_before q_kept q_isKept q_refused q_text q_ones q_said q_readTable q_least q_made q_enough q_isWanted q_column q_foundColumn q_walls q_wallMany q_chosen)) rfl (pc' := 14) rfl ?_
  refine mm_iload_n 0 dX8_unread_14 rfl rfl (pc' := 15) rfl ?_
  have h9 := Option.some.inj h
  subst h9
  exact mm_iret rfl dX8_unread_15 ⟨rfl, rfl⟩

def P_X8_areSo (q_textSize : Int32) (q_cursor : Int32) (q_start : Int32) (q_token : Int32) (q_number : Int32) (q_word : Int64) (q_fault : Int32) (q_line : Int32) (q_foundPains : Int32) (q_foundLine : Int32) (q_deadMany : Int32) (q_deadSize : Int32) (q_deadLeast : Int32) (q_deadMost : Int32) (q_st : Nat → Int32) (q_before : Nat → Int32) (q_kept : Nat → Int32) (q_isKept : Nat → Int32) (q_refused : Nat → Int32) (q_text : Nat → Int32) (q_ones : Nat → Int32) (q_said : Nat → Int32) (q_readTable : Nat → Int32) (q_least : Nat → Int32) (q_made : Nat → Int32) (q_enough : Nat → Int32) (q_isWanted : Nat → Int32) (q_column : Nat → Int32) (q_foundColumn : Nat → Int32) (q_walls : Nat → Int64) (q_wallMany : Nat → Int32) (q_chosen : Nat → Int32) (r : Int32) : Option Value → mm_W → Prop := fun rv w => rv = some (.int r) ∧ w = (W_X8 q_textSize q_cursor q_start q_token q_number q_word q_fault q_line q_foundPains q_foundLine q_deadMany q_deadSize q_deadLeast q_deadMost q_st q_before q_kept q_isKept q_refused q_text q_ones q_said q_readTable q_least q_made q_enough q_isWanted q_column q_foundColumn q_walls q_wallMany q_chosen)
def X8_areSo_J129 (fu : Nat) (rec5 : Int32 → Int32 → Option (Int32)) (q_st : Nat → Int32) (q_ones : Nat → Int32) (v1 : Int32) (v2 : Int32) (v4 : Int32) (s0 : Int32) : Option (Int32) := rec5 s0 (v4 + (1 : Int32))
set_option maxHeartbeats 4000000 in
set_option maxRecDepth 100000 in
theorem s_X8_areSo_J129 {fu : Nat} {q_textSize : Int32} {q_cursor : Int32} {q_start : Int32} {q_token : Int32} {q_number : Int32} {q_word : Int64} {q_fault : Int32} {q_line : Int32} {q_foundPains : Int32} {q_foundLine : Int32} {q_deadMany : Int32} {q_deadSize : Int32} {q_deadLeast : Int32} {q_deadMost : Int32} {q_st : Nat → Int32} {q_before : Nat → Int32} {q_kept : Nat → Int32} {q_isKept : Nat → Int32} {q_refused : Nat → Int32} {q_text : Nat → Int32} {q_ones : Nat → Int32} {q_said : Nat → Int32} {q_readTable : Nat → Int32} {q_least : Nat → Int32} {q_made : Nat → Int32} {q_enough : Nat → Int32} {q_isWanted : Nat → Int32} {q_column : Nat → Int32} {q_foundColumn : Nat → Int32} {q_walls : Nat → Int64} {q_wallMany : Nat → Int32} {q_chosen : Nat → Int32} {r : Int32} {rec5 : Int32 → Int32 → Option (Int32)} {v1 : Int32} {v2 : Int32} {v4 : Int32} {s0 : Int32} (hr5 : ∀ (y3 : Int32) (y4 : Int32), rec5 y3 y4 = some r → mm_Wp mX8_areSo (mm_R (P_X8_areSo q_textSize q_cursor q_start q_token q_number q_word q_fault q_line q_foundPains q_foundLine q_deadMany q_deadSize q_deadLeast q_deadMost q_st q_before q_kept q_isKept q_refused q_text q_ones q_said q_readTable q_least q_made q_enough q_isWanted q_column q_foundColumn q_walls q_wallMany q_chosen r)) 0 0 5 [(0, .ref 0), (1, .int v1), (2, .int v2), (3, .int y3), (4, .int y4)] [] (W_X8 q_textSize q_cursor q_start q_token q_number q_word q_fault q_line q_foundPains q_foundLine q_deadMany q_deadSize q_deadLeast q_deadMost q_st q_before q_kept q_isKept q_refused q_text q_ones q_said q_readTable q_least q_made q_enough q_isWanted q_column q_foundColumn q_walls q_wallMany q_chosen)) (h : X8_areSo_J129 fu rec5 q_st q_ones v1 v2 v4 s0 = some r) : mm_Wp mX8_areSo (mm_R (P_X8_areSo q_textSize q_cursor q_start q_token q_number q_word q_fault q_line q_foundPains q_foundLine q_deadMany q_deadSize q_deadLeast q_deadMost q_st q_before q_kept q_isKept q_refused q_text q_ones q_said q_readTable q_least q_made q_enough q_isWanted q_column q_foundColumn q_walls q_wallMany q_chosen r)) 0 0 129 [(0, .ref 0), (1, .int v1), (2, .int v2), (4, .int v4)] [.int s0] (W_X8 q_textSize q_cursor q_start q_token q_number q_word q_fault q_line q_foundPains q_foundLine q_deadMany q_deadSize q_deadLeast q_deadMost q_st q_before q_kept q_isKept q_refused q_text q_ones q_said q_readTable q_least q_made q_enough q_isWanted q_column q_foundColumn q_walls q_wallMany q_chosen) := by
  rw [X8_areSo_J129] at h
  refine mm_istore_n dX8_areSo_129 rfl (by decide) (l' := [(3, .int s0), (0, .ref 0), (1, .int v1), (2, .int v2), (4, .int v4)]) rfl (pc' := 130) rfl ?_
  refine mm_iinc 4 dX8_areSo_130 rfl ki_1 (by decide) (l' := [(4, .int (v4 + (1 : Int32))), (3, .int s0), (0, .ref 0), (1, .int v1), (2, .int v2)]) rfl (pc' := 133) rfl ?_
  refine mm_goto (tgt := 5) dX8_areSo_133 (by decide) ?_
  exact mm_sub [2, 3, 4, 1, 0] rfl (hr5 _ _ h)
def X8_areSo_J128 (fu : Nat) (rec5 : Int32 → Int32 → Option (Int32)) (q_st : Nat → Int32) (q_ones : Nat → Int32) (v1 : Int32) (v2 : Int32) (v4 : Int32)  : Option (Int32) := X8_areSo_J129 fu rec5 q_st q_ones v1 v2 v4 (0 : Int32)
set_option maxHeartbeats 4000000 in
set_option maxRecDepth 100000 in
theorem s_X8_areSo_J128 {fu : Nat} {q_textSize : Int32} {q_cursor : Int32} {q_start : Int32} {q_token : Int32} {q_number : Int32} {q_word : Int64} {q_fault : Int32} {q_line : Int32} {q_foundPains : Int32} {q_foundLine : Int32} {q_deadMany : Int32} {q_deadSize : Int32} {q_deadLeast : Int32} {q_deadMost : Int32} {q_st : Nat → Int32} {q_before : Nat → Int32} {q_kept : Nat → Int32} {q_isKept : Nat → Int32} {q_refused : Nat → Int32} {q_text : Nat → Int32} {q_ones : Nat → Int32} {q_said : Nat → Int32} {q_readTable : Nat → Int32} {q_least : Nat → Int32} {q_made : Nat → Int32} {q_enough : Nat → Int32} {q_isWanted : Nat → Int32} {q_column : Nat → Int32} {q_foundColumn : Nat → Int32} {q_walls : Nat → Int64} {q_wallMany : Nat → Int32} {q_chosen : Nat → Int32} {r : Int32} {rec5 : Int32 → Int32 → Option (Int32)} {v1 : Int32} {v2 : Int32} {v4 : Int32} (hr5 : ∀ (y3 : Int32) (y4 : Int32), rec5 y3 y4 = some r → mm_Wp mX8_areSo (mm_R (P_X8_areSo q_textSize q_cursor q_start q_token q_number q_word q_fault q_line q_foundPains q_foundLine q_deadMany q_deadSize q_deadLeast q_deadMost q_st q_before q_kept q_isKept q_refused q_text q_ones q_said q_readTable q_least q_made q_enough q_isWanted q_column q_foundColumn q_walls q_wallMany q_chosen r)) 0 0 5 [(0, .ref 0), (1, .int v1), (2, .int v2), (3, .int y3), (4, .int y4)] [] (W_X8 q_textSize q_cursor q_start q_token q_number q_word q_fault q_line q_foundPains q_foundLine q_deadMany q_deadSize q_deadLeast q_deadMost q_st q_before q_kept q_isKept q_refused q_text q_ones q_said q_readTable q_least q_made q_enough q_isWanted q_column q_foundColumn q_walls q_wallMany q_chosen)) (h : X8_areSo_J128 fu rec5 q_st q_ones v1 v2 v4 = some r) : mm_Wp mX8_areSo (mm_R (P_X8_areSo q_textSize q_cursor q_start q_token q_number q_word q_fault q_line q_foundPains q_foundLine q_deadMany q_deadSize q_deadLeast q_deadMost q_st q_before q_kept q_isKept q_refused q_text q_ones q_said q_readTable q_least q_made q_enough q_isWanted q_column q_foundColumn q_walls q_wallMany q_chosen r)) 0 0 128 [(0, .ref 0), (1, .int v1), (2, .int v2), (4, .int v4)] [] (W_X8 q_textSize q_cursor q_start q_token q_number q_word q_fault q_line q_foundPains q_foundLine q_deadMany q_deadSize q_deadLeast q_deadMost q_st q_before q_kept q_isKept q_refused q_text q_ones q_said q_readTable q_least q_made q_enough q_isWanted q_column q_foundColumn q_walls q_wallMany q_chosen) := by
  rw [X8_areSo_J128] at h
  refine mm_iconst dX8_areSo_128 ki_0 (pc' := 129) rfl ?_
  exact s_X8_areSo_J129 (hr5 := hr5) h
def X8_areSo_J93 (fu : Nat) (rec5 : Int32 → Int32 → Option (Int32)) (rec48 : Int32 → Int32 → Option (Int32)) (q_st : Nat → Int32) (q_ones : Nat → Int32) (v1 : Int32) (v2 : Int32) (v3 : Int32) (v4 : Int32) (v5 : Int32) (v7 : Int32) (s0 : Int32) (s1 : Int32) : Option (Int32) := rec48 (s1 &&& s0) (v7 + (1 : Int32))
set_option maxHeartbeats 4000000 in
set_option maxRecDepth 100000 in
theorem s_X8_areSo_J93 {fu : Nat} {q_textSize : Int32} {q_cursor : Int32} {q_start : Int32} {q_token : Int32} {q_number : Int32} {q_word : Int64} {q_fault : Int32} {q_line : Int32} {q_foundPains : Int32} {q_foundLine : Int32} {q_deadMany : Int32} {q_deadSize : Int32} {q_deadLeast : Int32} {q_deadMost : Int32} {q_st : Nat → Int32} {q_before : Nat → Int32} {q_kept : Nat → Int32} {q_isKept : Nat → Int32} {q_refused : Nat → Int32} {q_text : Nat → Int32} {q_ones : Nat → Int32} {q_said : Nat → Int32} {q_readTable : Nat → Int32} {q_least : Nat → Int32} {q_made : Nat → Int32} {q_enough : Nat → Int32} {q_isWanted : Nat → Int32} {q_column : Nat → Int32} {q_foundColumn : Nat → Int32} {q_walls : Nat → Int64} {q_wallMany : Nat → Int32} {q_chosen : Nat → Int32} {r : Int32} {rec5 : Int32 → Int32 → Option (Int32)} {rec48 : Int32 → Int32 → Option (Int32)} {v1 : Int32} {v2 : Int32} {v3 : Int32} {v4 : Int32} {v5 : Int32} {v7 : Int32} {s0 : Int32} {s1 : Int32} (hr5 : ∀ (y3 : Int32) (y4 : Int32), rec5 y3 y4 = some r → mm_Wp mX8_areSo (mm_R (P_X8_areSo q_textSize q_cursor q_start q_token q_number q_word q_fault q_line q_foundPains q_foundLine q_deadMany q_deadSize q_deadLeast q_deadMost q_st q_before q_kept q_isKept q_refused q_text q_ones q_said q_readTable q_least q_made q_enough q_isWanted q_column q_foundColumn q_walls q_wallMany q_chosen r)) 0 0 5 [(0, .ref 0), (1, .int v1), (2, .int v2), (3, .int y3), (4, .int y4)] [] (W_X8 q_textSize q_cursor q_start q_token q_number q_word q_fault q_line q_foundPains q_foundLine q_deadMany q_deadSize q_deadLeast q_deadMost q_st q_before q_kept q_isKept q_refused q_text q_ones q_said q_readTable q_least q_made q_enough q_isWanted q_column q_foundColumn q_walls q_wallMany q_chosen)) (hr48 : ∀ (y6 : Int32) (y7 : Int32), rec48 y6 y7 = some r → mm_Wp mX8_areSo (mm_R (P_X8_areSo q_textSize q_cursor q_start q_token q_number q_word q_fault q_line q_foundPains q_foundLine q_deadMany q_deadSize q_deadLeast q_deadMost q_st q_before q_kept q_isKept q_refused q_text q_ones q_said q_readTable q_least q_made q_enough q_isWanted q_column q_foundColumn q_walls q_wallMany q_chosen r)) 0 0 48 [(0, .ref 0), (1, .int v1), (2, .int v2), (3, .int v3), (4, .int v4), (5, .int v5), (6, .int y6), (7, .int y7)] [] (W_X8 q_textSize q_cursor q_start q_token q_number q_word q_fault q_line q_foundPains q_foundLine q_deadMany q_deadSize q_deadLeast q_deadMost q_st q_before q_kept q_isKept q_refused q_text q_ones q_said q_readTable q_least q_made q_enough q_isWanted q_column q_foundColumn q_walls q_wallMany q_chosen)) (h : X8_areSo_J93 fu rec5 rec48 q_st q_ones v1 v2 v3 v4 v5 v7 s0 s1 = some r) : mm_Wp mX8_areSo (mm_R (P_X8_areSo q_textSize q_cursor q_start q_token q_number q_word q_fault q_line q_foundPains q_foundLine q_deadMany q_deadSize q_deadLeast q_deadMost q_st q_before q_kept q_isKept q_refused q_text q_ones q_said q_readTable q_least q_made q_enough q_isWanted q_column q_foundColumn q_walls q_wallMany q_chosen r)) 0 0 93 [(0, .ref 0), (1, .int v1), (2, .int v2), (3, .int v3), (4, .int v4), (5, .int v5), (7, .int v7)] [.int s0, .int s1] (W_X8 q_textSize q_cursor q_start q_token q_number q_word q_fault q_line q_foundPains q_foundLine q_deadMany q_deadSize q_deadLeast q_deadMost q_st q_before q_kept q_isKept q_refused q_text q_ones q_said q_readTable q_least q_made q_enough q_isWanted q_column q_foundColumn q_walls q_wallMany q_chosen) := by
  rw [X8_areSo_J93] at h
  refine mm_iand dX8_areSo_93 (pc' := 94) rfl ?_
  refine mm_istore dX8_areSo_94 (by decide) (l' := [(6, .int (s1 &&& s0)), (0, .ref 0), (1, .int v1), (2, .int v2), (3, .int v3), (4, .int v4), (5, .int v5), (7, .int v7)]) rfl (pc' := 96) rfl ?_
  refine mm_iinc 7 dX8_areSo_96 rfl ki_1 (by decide) (l' := [(7, .int (v7 + (1 : Int32))), (6, .int (s1 &&& s0)), (0, .ref 0), (1, .int v1), (2, .int v2), (3, .int v3), (4, .int v4), (5, .int v5)]) rfl (pc' := 99) rfl ?_
  refine mm_goto (tgt := 48) dX8_areSo_99 (by decide) ?_
  exact mm_sub [2, 3, 4, 5, 6, 7, 1, 0] rfl (hr48 _ _ h)
def X8_areSo_J83 (fu : Nat) (rec5 : Int32 → Int32 → Option (Int32)) (rec48 : Int32 → Int32 → Option (Int32)) (q_st : Nat → Int32) (q_ones : Nat → Int32) (v1 : Int32) (v2 : Int32) (v3 : Int32) (v4 : Int32) (v5 : Int32) (v7 : Int32) (s0 : Int32) : Option (Int32) := X8_areSo_J93 fu rec5 rec48 q_st q_ones v1 v2 v3 v4 v5 v7 (((1 : Int32) <<< (v7 &&& 31)) ^^^ (-1 : Int32)) s0
set_option maxHeartbeats 4000000 in
set_option maxRecDepth 100000 in
theorem s_X8_areSo_J83 {fu : Nat} {q_textSize : Int32} {q_cursor : Int32} {q_start : Int32} {q_token : Int32} {q_number : Int32} {q_word : Int64} {q_fault : Int32} {q_line : Int32} {q_foundPains : Int32} {q_foundLine : Int32} {q_deadMany : Int32} {q_deadSize : Int32} {q_deadLeast : Int32} {q_deadMost : Int32} {q_st : Nat → Int32} {q_before : Nat → Int32} {q_kept : Nat → Int32} {q_isKept : Nat → Int32} {q_refused : Nat → Int32} {q_text : Nat → Int32} {q_ones : Nat → Int32} {q_said : Nat → Int32} {q_readTable : Nat → Int32} {q_least : Nat → Int32} {q_made : Nat → Int32} {q_enough : Nat → Int32} {q_isWanted : Nat → Int32} {q_column : Nat → Int32} {q_foundColumn : Nat → Int32} {q_walls : Nat → Int64} {q_wallMany : Nat → Int32} {q_chosen : Nat → Int32} {r : Int32} {rec5 : Int32 → Int32 → Option (Int32)} {rec48 : Int32 → Int32 → Option (Int32)} {v1 : Int32} {v2 : Int32} {v3 : Int32} {v4 : Int32} {v5 : Int32} {v7 : Int32} {s0 : Int32} (hr5 : ∀ (y3 : Int32) (y4 : Int32), rec5 y3 y4 = some r → mm_Wp mX8_areSo (mm_R (P_X8_areSo q_textSize q_cursor q_start q_token q_number q_word q_fault q_line q_foundPains q_foundLine q_deadMany q_deadSize q_deadLeast q_deadMost q_st q_before q_kept q_isKept q_refused q_text q_ones q_said q_readTable q_least q_made q_enough q_isWanted q_column q_foundColumn q_walls q_wallMany q_chosen r)) 0 0 5 [(0, .ref 0), (1, .int v1), (2, .int v2), (3, .int y3), (4, .int y4)] [] (W_X8 q_textSize q_cursor q_start q_token q_number q_word q_fault q_line q_foundPains q_foundLine q_deadMany q_deadSize q_deadLeast q_deadMost q_st q_before q_kept q_isKept q_refused q_text q_ones q_said q_readTable q_least q_made q_enough q_isWanted q_column q_foundColumn q_walls q_wallMany q_chosen)) (hr48 : ∀ (y6 : Int32) (y7 : Int32), rec48 y6 y7 = some r → mm_Wp mX8_areSo (mm_R (P_X8_areSo q_textSize q_cursor q_start q_token q_number q_word q_fault q_line q_foundPains q_foundLine q_deadMany q_deadSize q_deadLeast q_deadMost q_st q_before q_kept q_isKept q_refused q_text q_ones q_said q_readTable q_least q_made q_enough q_isWanted q_column q_foundColumn q_walls q_wallMany q_chosen r)) 0 0 48 [(0, .ref 0), (1, .int v1), (2, .int v2), (3, .int v3), (4, .int v4), (5, .int v5), (6, .int y6), (7, .int y7)] [] (W_X8 q_textSize q_cursor q_start q_token q_number q_word q_fault q_line q_foundPains q_foundLine q_deadMany q_deadSize q_deadLeast q_deadMost q_st q_before q_kept q_isKept q_refused q_text q_ones q_said q_readTable q_least q_made q_enough q_isWanted q_column q_foundColumn q_walls q_wallMany q_chosen)) (h : X8_areSo_J83 fu rec5 rec48 q_st q_ones v1 v2 v3 v4 v5 v7 s0 = some r) : mm_Wp mX8_areSo (mm_R (P_X8_areSo q_textSize q_cursor q_start q_token q_number q_word q_fault q_line q_foundPains q_foundLine q_deadMany q_deadSize q_deadLeast q_deadMost q_st q_before q_kept q_isKept q_refused q_text q_ones q_said q_readTable q_least q_made q_enough q_isWanted q_column q_foundColumn q_walls q_wallMany q_chosen r)) 0 0 83 [(0, .ref 0), (1, .int v1), (2, .int v2), (3, .int v3), (4, .int v4), (5, .int v5), (7, .int v7)] [.int s0] (W_X8 q_textSize q_cursor q_start q_token q_number q_word q_fault q_line q_foundPains q_foundLine q_deadMany q_deadSize q_deadLeast q_deadMost q_st q_before q_kept q_isKept q_refused q_text q_ones q_said q_readTable q_least q_made q_enough q_isWanted q_column q_foundColumn q_walls q_wallMany q_chosen) := by
  rw [X8_areSo_J83] at h
  refine mm_iconst dX8_areSo_83 ki_1 (pc' := 84) rfl ?_
  refine mm_iload 6 dX8_areSo_84 rfl (pc' := 86) rfl ?_
  refine mm_ishl dX8_areSo_86 (pc' := 87) rfl ?_
  refine mm_iconst dX8_areSo_87 ki_m1 (pc' := 88) rfl ?_
  refine mm_ixor dX8_areSo_88 (pc' := 89) rfl ?_
  refine mm_goto (tgt := 93) dX8_areSo_89 (by decide) ?_
  exact s_X8_areSo_J93 (hr5 := hr5) (hr48 := hr48) h
def X8_areSo_L48 (fu : Nat) (rec5 : Int32 → Int32 → Option (Int32)) (q_st : Nat → Int32) (q_ones : Nat → Int32) (v1 : Int32) (v2 : Int32) (v3 : Int32) (v4 : Int32) (v5 : Int32) : Nat → Int32 → Int32 → Option (Int32)
  | 0, _, _ => none
  | n + 1, v6, v7 => if (12 : Int32) ≤ v7 then (if v3 = 0 then (X8_areSo_J128 fu rec5 q_st q_ones v1 v2 v4) else ((f_X8_readAs fu q_st q_ones v6).bind fun t109 => mm_rd q_st 354 (v5 + (2 : Int32)) fun x120 => if t109 = x120 then (X8_areSo_J129 fu rec5 q_st q_ones v1 v2 v4 (1 : Int32)) else (X8_areSo_J128 fu rec5 q_st q_ones v1 v2 v4))) else (mm_rd q_st 354 v5 fun x61 => (f_X8_cellOf fu x61 v7).bind fun t64 => if t64 = v1 then (X8_areSo_J83 fu rec5 (X8_areSo_L48 fu rec5 q_st q_ones v1 v2 v3 v4 v5 n) q_st q_ones v1 v2 v3 v4 v5 v7 v6) else (if t64 = v2 then (X8_areSo_J83 fu rec5 (X8_areSo_L48 fu rec5 q_st q_ones v1 v2 v3 v4 v5 n) q_st q_ones v1 v2 v3 v4 v5 v7 v6) else (X8_areSo_J93 fu rec5 (X8_areSo_L48 fu rec5 q_st q_ones v1 v2 v3 v4 v5 n) q_st q_ones v1 v2 v3 v4 v5 v7 (-1 : Int32) v6)))
set_option maxHeartbeats 4000000 in
set_option maxRecDepth 100000 in
theorem s_X8_areSo_L48 {fu : Nat} {q_textSize : Int32} {q_cursor : Int32} {q_start : Int32} {q_token : Int32} {q_number : Int32} {q_word : Int64} {q_fault : Int32} {q_line : Int32} {q_foundPains : Int32} {q_foundLine : Int32} {q_deadMany : Int32} {q_deadSize : Int32} {q_deadLeast : Int32} {q_deadMost : Int32} {q_st : Nat → Int32} {q_before : Nat → Int32} {q_kept : Nat → Int32} {q_isKept : Nat → Int32} {q_refused : Nat → Int32} {q_text : Nat → Int32} {q_ones : Nat → Int32} {q_said : Nat → Int32} {q_readTable : Nat → Int32} {q_least : Nat → Int32} {q_made : Nat → Int32} {q_enough : Nat → Int32} {q_isWanted : Nat → Int32} {q_column : Nat → Int32} {q_foundColumn : Nat → Int32} {q_walls : Nat → Int64} {q_wallMany : Nat → Int32} {q_chosen : Nat → Int32} {r : Int32} {rec5 : Int32 → Int32 → Option (Int32)} {v1 : Int32} {v2 : Int32} {v3 : Int32} {v4 : Int32} {v5 : Int32} (hr5 : ∀ (y3 : Int32) (y4 : Int32), rec5 y3 y4 = some r → mm_Wp mX8_areSo (mm_R (P_X8_areSo q_textSize q_cursor q_start q_token q_number q_word q_fault q_line q_foundPains q_foundLine q_deadMany q_deadSize q_deadLeast q_deadMost q_st q_before q_kept q_isKept q_refused q_text q_ones q_said q_readTable q_least q_made q_enough q_isWanted q_column q_foundColumn q_walls q_wallMany q_chosen r)) 0 0 5 [(0, .ref 0), (1, .int v1), (2, .int v2), (3, .int y3), (4, .int y4)] [] (W_X8 q_textSize q_cursor q_start q_token q_number q_word q_fault q_line q_foundPains q_foundLine q_deadMany q_deadSize q_deadLeast q_deadMost q_st q_before q_kept q_isKept q_refused q_text q_ones q_said q_readTable q_least q_made q_enough q_isWanted q_column q_foundColumn q_walls q_wallMany q_chosen)) : ∀ (n : Nat) (v6 : Int32) (v7 : Int32), X8_areSo_L48 fu rec5 q_st q_ones v1 v2 v3 v4 v5 n v6 v7 = some r → mm_Wp mX8_areSo (mm_R (P_X8_areSo q_textSize q_cursor q_start q_token q_number q_word q_fault q_line q_foundPains q_foundLine q_deadMany q_deadSize q_deadLeast q_deadMost q_st q_before q_kept q_isKept q_refused q_text q_ones q_said q_readTable q_least q_made q_enough q_isWanted q_column q_foundColumn q_walls q_wallMany q_chosen r)) 0 0 48 [(0, .ref 0), (1, .int v1), (2, .int v2), (3, .int v3), (4, .int v4), (5, .int v5), (6, .int v6), (7, .int v7)] [] (W_X8 q_textSize q_cursor q_start q_token q_number q_word q_fault q_line q_foundPains q_foundLine q_deadMany q_deadSize q_deadLeast q_deadMost q_st q_before q_kept q_isKept q_refused q_text q_ones q_said q_readTable q_least q_made q_enough q_isWanted q_column q_foundColumn q_walls q_wallMany q_chosen) := by
  intro n
  induction n with
  | zero =>
    intro v6 v7 h
    rw [X8_areSo_L48] at h
    cases h
  | succ n hr48 =>
    intro v6 v7 h
    rw [X8_areSo_L48] at h
    refine mm_iload 7 dX8_areSo_48 rfl (pc' := 50) rfl ?_
    refine mm_bipush dX8_areSo_50 kb_12 (pc' := 52) rfl ?_
    refine mm_icmp_ge (tgt := 102) dX8_areSo_52 (by decide) (pc' := 55) rfl (fun c => ?_) (fun c => ?_)
    · replace h := mm_it h c
      clear c
      refine mm_iload_n 3 dX8_areSo_102 rfl rfl (pc' := 103) rfl ?_
      refine mm_if_eq (tgt := 128) dX8_areSo_103 (by decide) (pc' := 106) rfl (fun c => ?_) (fun c => ?_)
      · replace h := mm_it h c
        clear c
        exact mm_sub [0, 1, 2, 4] rfl (s_X8_areSo_J128 (hr5 := hr5) h)
      · replace h := mm_if h c
        clear c
        refine mm_aload_n 0 dX8_areSo_106 rfl rfl (pc' := 107) rfl ?_
        refine mm_iload 6 dX8_areSo_107 rfl (pc' := 109) rfl ?_
        obtain ⟨t109, h109, h⟩ := mm_bd h
        refine mm_call0 (As := [.int v6]) (rest := []) cV_X8_180 (ok_X8_readAs h109) ⟨rfl, rfl, Nat.le_of_ble_eq_true rfl, Nat.le_of_ble_eq_true rfl⟩ dX8_areSo_109 rfl rfl rfl rfl (by rintro _ _ ⟨-, rfl⟩; rfl) (Nat.le_of_ble_eq_true rfl) ⟨Nat.le_of_ble_eq_true rfl, Nat.le_of_ble_eq_true rfl⟩ (pc' := 112) rfl ?_
        rintro rv w ⟨rfl, rfl⟩
        show mm_Wp _ _ _ _ 112 [(0, .ref 0), (1, .int v1), (2, .int v2), (3, .int v3), (4, .int v4), (5, .int v5), (6, .int v6), (7, .int v7)] [.int t109] (W_X8 q_textSize q_cursor q_start q_token q_number q_word q_fault q_line q_foundPains q_foundLine q_deadMany q_deadSize q_deadLeast q_deadMost q_st q_before q_kept q_isKept q_refused q_text q_ones q_said q_readTable q_least q_made q_enough q_isWanted q_column q_foundColumn q_walls q_wallMany q_chosen)
        clear h109
        refine mm_aload_n 0 dX8_areSo_112 rfl rfl (pc' := 113) rfl ?_
        refine mm_getf fG_X8_7 dX8_areSo_113 rfl rfl (pc' := 116) rfl ?_
        refine mm_iload 5 dX8_areSo_116 rfl (pc' := 118) rfl ?_
        refine mm_iconst dX8_areSo_118 ki_2 (pc' := 119) rfl ?_
        refine mm_iadd dX8_areSo_119 (pc' := 120) rfl ?_
        obtain ⟨x120, c120, e120, h⟩ := mm_rd_of h
        refine mm_iald dX8_areSo_120 rfl c120 e120 (pc' := 121) rfl ?_
        clear c120 e120
        refine mm_icmp_ne (tgt := 128) dX8_areSo_121 (by decide) (pc' := 124) rfl (fun c => ?_) (fun c => ?_)
        · replace h := mm_if h c
          clear c
          exact mm_sub [0, 1, 2, 4] rfl (s_X8_areSo_J128 (hr5 := hr5) h)
        · replace h := mm_it h c
          clear c
          refine mm_iconst dX8_areSo_124 ki_1 (pc' := 125) rfl ?_
          refine mm_goto (tgt := 129) dX8_areSo_125 (by decide) ?_
          exact mm_sub [0, 1, 2, 4] rfl (s_X8_areSo_J129 (hr5 := hr5) h)
    · replace h := mm_if h c
      clear c
      refine mm_aload_n 0 dX8_areSo_55 rfl rfl (pc' := 56) rfl ?_
      refine mm_getf fG_X8_7 dX8_areSo_56 rfl rfl (pc' := 59) rfl ?_
      refine mm_iload 5 dX8_areSo_59 rfl (pc' := 61) rfl ?_
      obtain ⟨x61, c61, e61, h⟩ := mm_rd_of h
      refine mm_iald dX8_areSo_61 rfl c61 e61 (pc' := 62) rfl ?_
      clear c61 e61
      refine mm_iload 7 dX8_areSo_62 rfl (pc' := 64) rfl ?_
      obtain ⟨t64, h64, h⟩ := mm_bd h
      refine mm_callS (As := [.int x61, .int v7]) (rest := []) (av := [.int x61, .int v7]) (wc := []) (is := []) cS_X8_183 (ok_X8_cellOf h64) ⟨rfl, rfl, Nat.le_of_ble_eq_true rfl, Nat.le_of_ble_eq_true rfl⟩ dX8_areSo_64 rfl rfl rfl ⟨rfl, by decide, by decide⟩ (by rintro _ _ ⟨-, rfl⟩; rfl) (Nat.le_of_ble_eq_true rfl) ⟨Nat.le_of_ble_eq_true rfl, Nat.le_of_ble_eq_true rfl⟩ (pc' := 67) rfl ?_
      rintro rv w ⟨rfl, rfl⟩
      show mm_Wp _ _ _ _ 67 [(0, .ref 0), (1, .int v1), (2, .int v2), (3, .int v3), (4, .int v4), (5, .int v5), (6, .int v6), (7, .int v7)] [.int t64] (W_X8 q_textSize q_cursor q_start q_token q_number q_word q_fault q_line q_foundPains q_foundLine q_deadMany q_deadSize q_deadLeast q_deadMost q_st q_before q_kept q_isKept q_refused q_text q_ones q_said q_readTable q_least q_made q_enough q_isWanted q_column q_foundColumn q_walls q_wallMany q_chosen)
      clear h64
      refine mm_istore dX8_areSo_67 (by decide) (l' := [(8, .int t64), (0, .ref 0), (1, .int v1), (2, .int v2), (3, .int v3), (4, .int v4), (5, .int v5), (6, .int v6), (7, .int v7)]) rfl (pc' := 69) rfl ?_
      refine mm_iload 7 dX8_areSo_69 rfl (pc' := 71) rfl ?_
      refine mm_iload 0 dX8_areSo_71 rfl (pc' := 73) rfl ?_
      refine mm_iload_n 2 dX8_areSo_73 rfl rfl (pc' := 74) rfl ?_
      refine mm_icmp_eq (tgt := 83) dX8_areSo_74 (by decide) (pc' := 77) rfl (fun c => ?_) (fun c => ?_)
      · replace h := mm_it h c
        clear c
        exact mm_sub [1, 2, 3, 4, 5, 6, 8] rfl (s_X8_areSo_J83 (hr5 := hr5) (hr48 := hr48) h)
      · replace h := mm_if h c
        clear c
        refine mm_iload 0 dX8_areSo_77 rfl (pc' := 79) rfl ?_
        refine mm_iload_n 3 dX8_areSo_79 rfl rfl (pc' := 80) rfl ?_
        refine mm_icmp_ne (tgt := 92) dX8_areSo_80 (by decide) (pc' := 83) rfl (fun c => ?_) (fun c => ?_)
        · replace h := mm_if h c
          clear c
          refine mm_iconst dX8_areSo_92 ki_m1 (pc' := 93) rfl ?_
          exact mm_sub [1, 2, 3, 4, 5, 6, 8] rfl (s_X8_areSo_J93 (hr5 := hr5) (hr48 := hr48) h)
        · replace h := mm_it h c
          clear c
          exact mm_sub [1, 2, 3, 4, 5, 6, 8] rfl (s_X8_areSo_J83 (hr5 := hr5) (hr48 := hr48) h)
def X8_areSo_L5 (fu : Nat)  (q_st : Nat → Int32) (q_ones : Nat → Int32) (v1 : Int32) (v2 : Int32) : Nat → Int32 → Int32 → Option (Int32)
  | 0, _, _ => none
  | n + 1, v3, v4 => if (q_st 4) ≤ v4 then (mm_gd (mm_zb v3) (some (v3))) else (mm_let ((336 : Int32) + ((3 : Int32) * v4)) fun y24 => mm_rd q_st 354 (y24 + (1 : Int32)) fun x40 => mm_rd q_st 354 ((30 : Int32) + x40) fun x42 => X8_areSo_L48 fu (X8_areSo_L5 fu q_st q_ones v1 v2 n) q_st q_ones v1 v2 v3 v4 y24 fu x42 (0 : Int32))
set_option maxHeartbeats 4000000 in
set_option maxRecDepth 100000 in
theorem s_X8_areSo_L5 {fu : Nat} {q_textSize : Int32} {q_cursor : Int32} {q_start : Int32} {q_token : Int32} {q_number : Int32} {q_word : Int64} {q_fault : Int32} {q_line : Int32} {q_foundPains : Int32} {q_foundLine : Int32} {q_deadMany : Int32} {q_deadSize : Int32} {q_deadLeast : Int32} {q_deadMost : Int32} {q_st : Nat → Int32} {q_before : Nat → Int32} {q_kept : Nat → Int32} {q_isKept : Nat → Int32} {q_refused : Nat → Int32} {q_text : Nat → Int32} {q_ones : Nat → Int32} {q_said : Nat → Int32} {q_readTable : Nat → Int32} {q_least : Nat → Int32} {q_made : Nat → Int32} {q_enough : Nat → Int32} {q_isWanted : Nat → Int32} {q_column : Nat → Int32} {q_foundColumn : Nat → Int32} {q_walls : Nat → Int64} {q_wallMany : Nat → Int32} {q_chosen : Nat → Int32} {r : Int32} {v1 : Int32} {v2 : Int32} : ∀ (n : Nat) (v3 : Int32) (v4 : Int32), X8_areSo_L5 fu q_st q_ones v1 v2 n v3 v4 = some r → mm_Wp mX8_areSo (mm_R (P_X8_areSo q_textSize q_cursor q_start q_token q_number q_word q_fault q_line q_foundPains q_foundLine q_deadMany q_deadSize q_deadLeast q_deadMost q_st q_before q_kept q_isKept q_refused q_text q_ones q_said q_readTable q_least q_made q_enough q_isWanted q_column q_foundColumn q_walls q_wallMany q_chosen r)) 0 0 5 [(0, .ref 0), (1, .int v1), (2, .int v2), (3, .int v3), (4, .int v4)] [] (W_X8 q_textSize q_cursor q_start q_token q_number q_word q_fault q_line q_foundPains q_foundLine q_deadMany q_deadSize q_deadLeast q_deadMost q_st q_before q_kept q_isKept q_refused q_text q_ones q_said q_readTable q_least q_made q_enough q_isWanted q_column q_foundColumn q_walls q_wallMany q_chosen) := by
  intro n
  induction n with
  | zero =>
    intro v3 v4 h
    rw [X8_areSo_L5] at h
    cases h
  | succ n hr5 =>
    intro v3 v4 h
    rw [X8_areSo_L5] at h
    refine mm_iload 4 dX8_areSo_5 rfl (pc' := 7) rfl ?_
    refine mm_aload_n 0 dX8_areSo_7 rfl rfl (pc' := 8) rfl ?_
    refine mm_getf fG_X8_7 dX8_areSo_8 rfl rfl (pc' := 11) rfl ?_
    refine mm_iconst dX8_areSo_11 ki_4 (pc' := 12) rfl ?_
    refine mm_iald dX8_areSo_12 rfl ki_4_354 (congrArg _ kt_4) (pc' := 13) rfl ?_
    refine mm_icmp_ge (tgt := 136) dX8_areSo_13 (by decide) (pc' := 16) rfl (fun c => ?_) (fun c => ?_)
    · replace h := mm_it h c
      clear c
      refine mm_iload_n 3 dX8_areSo_136 rfl rfl (pc' := 137) rfl ?_
      obtain ⟨c, h⟩ := mm_gd_of h
      have h9 := Option.some.inj h
      subst h9
      exact mm_zret rfl (mm_zb_of c) dX8_areSo_137 ⟨rfl, rfl⟩
    · replace h := mm_if h c
      clear c
      refine mm_sipush dX8_areSo_16 ks_336 (pc' := 19) rfl ?_
      refine mm_iconst dX8_areSo_19 ki_3 (pc' := 20) rfl ?_
      refine mm_iload 4 dX8_areSo_20 rfl (pc' := 22) rfl ?_
      refine mm_imul dX8_areSo_22 (pc' := 23) rfl ?_
      refine mm_iadd dX8_areSo_23 (pc' := 24) rfl ?_
      refine mm_topi (fun y24 e => ?_)
      replace h := mm_let_of h y24 e
      clear e
      refine mm_istore dX8_areSo_24 (by decide) (l' := [(5, .int y24), (0, .ref 0), (1, .int v1), (2, .int v2), (3, .int v3), (4, .int v4)]) rfl (pc' := 26) rfl ?_
      refine mm_aload_n 1 dX8_areSo_26 rfl rfl (pc' := 27) rfl ?_
      refine mm_getf fG_X8_7 dX8_areSo_27 rfl rfl (pc' := 30) rfl ?_
      refine mm_bipush dX8_areSo_30 kb_30 (pc' := 32) rfl ?_
      refine mm_aload_n 1 dX8_areSo_32 rfl rfl (pc' := 33) rfl ?_
      refine mm_getf fG_X8_7 dX8_areSo_33 rfl rfl (pc' := 36) rfl ?_
      refine mm_iload 0 dX8_areSo_36 rfl (pc' := 38) rfl ?_
      refine mm_iconst dX8_areSo_38 ki_1 (pc' := 39) rfl ?_
      refine mm_iadd dX8_areSo_39 (pc' := 40) rfl ?_
      obtain ⟨x40, c40, e40, h⟩ := mm_rd_of h
      refine mm_iald dX8_areSo_40 rfl c40 e40 (pc' := 41) rfl ?_
      clear c40 e40
      refine mm_iadd dX8_areSo_41 (pc' := 42) rfl ?_
      obtain ⟨x42, c42, e42, h⟩ := mm_rd_of h
      refine mm_iald dX8_areSo_42 rfl c42 e42 (pc' := 43) rfl ?_
      clear c42 e42
      refine mm_istore dX8_areSo_43 (by decide) (l' := [(6, .int x42), (5, .int y24), (0, .ref 0), (1, .int v1), (2, .int v2), (3, .int v3), (4, .int v4)]) rfl (pc' := 45) rfl ?_
      refine mm_iconst dX8_areSo_45 ki_0 (pc' := 46) rfl ?_
      refine mm_istore dX8_areSo_46 (by decide) (l' := [(7, .int (0 : Int32)), (6, .int x42), (5, .int y24), (0, .ref 0), (1, .int v1), (2, .int v2), (3, .int v3), (4, .int v4)]) rfl (pc' := 48) rfl ?_
      exact mm_sub [3, 4, 5, 6, 7, 2, 1, 0] rfl (s_X8_areSo_L48 (hr5 := hr5) _ _ _ h)
def f_X8_areSo (fu : Nat) (q_st : Nat → Int32) (q_ones : Nat → Int32) (v1 : Int32) (v2 : Int32) : Option (Int32) := X8_areSo_L5 fu q_st q_ones v1 v2 fu (1 : Int32) (0 : Int32)
set_option maxHeartbeats 4000000 in
set_option maxRecDepth 100000 in
theorem ok_X8_areSo {fu : Nat} {q_textSize : Int32} {q_cursor : Int32} {q_start : Int32} {q_token : Int32} {q_number : Int32} {q_word : Int64} {q_fault : Int32} {q_line : Int32} {q_foundPains : Int32} {q_foundLine : Int32} {q_deadMany : Int32} {q_deadSize : Int32} {q_deadLeast : Int32} {q_deadMost : Int32} {q_st : Nat → Int32} {q_before : Nat → Int32} {q_kept : Nat → Int32} {q_isKept : Nat → Int32} {q_refused : Nat → Int32} {q_text : Nat → Int32} {q_ones : Nat → Int32} {q_said : Nat → Int32} {q_readTable : Nat → Int32} {q_least : Nat → Int32} {q_made : Nat → Int32} {q_enough : Nat → Int32} {q_isWanted : Nat → Int32} {q_column : Nat → Int32} {q_foundColumn : Nat → Int32} {q_walls : Nat → Int64} {q_wallMany : Nat → Int32} {q_chosen : Nat → Int32} {r : Int32} {v1 : Int32} {v2 : Int32} (h : f_X8_areSo fu q_st q_ones v1 v2 = some r) : mm_Ok mX8_areSo [.ref 0, .int v1, .int v2] (W_X8 q_textSize q_cursor q_start q_token q_number q_word q_fault q_line q_foundPains q_foundLine q_deadMany q_deadSize q_deadLeast q_deadMost q_st q_before q_kept q_isKept q_refused q_text q_ones q_said q_readTable q_least q_made q_enough q_isWanted q_column q_foundColumn q_walls q_wallMany q_chosen) (P_X8_areSo q_textSize q_cursor q_start q_token q_number q_word q_fault q_line q_foundPains q_foundLine q_deadMany q_deadSize q_deadLeast q_deadMost q_st q_before q_kept q_isKept q_refused q_text q_ones q_said q_readTable q_least q_made q_enough q_isWanted q_column q_foundColumn q_walls q_wallMany q_chosen r) := by
  rw [f_X8_areSo] at h
  refine mm_Ok.of pn_X8 (l := [(0, .ref 0), (1, .int v1), (2, .int v2)]) rfl (Nat.le_of_ble_eq_true rfl) ?_
  refine mm_iconst dX8_areSo_0 ki_1 (pc' := 1) rfl ?_
  refine mm_istore_n dX8_areSo_1 rfl (by decide) (l' := [(3, .int (1 : Int32)), (0, .ref 0), (1, .int v1), (2, .int v2)]) rfl (pc' := 2) rfl ?_
  refine mm_iconst dX8_areSo_2 ki_0 (pc' := 3) rfl ?_
  refine mm_istore dX8_areSo_3 (by decide) (l' := [(4, .int (0 : Int32)), (3, .int (1 : Int32)), (0, .ref 0), (1, .int v1), (2, .int v2)]) rfl (pc' := 5) rfl ?_
  exact mm_sub [2, 3, 4, 1, 0] rfl (s_X8_areSo_L5  _ _ _ h)

def P_X8_tryDead (q_textSize : Int32) (q_cursor : Int32) (q_start : Int32) (q_token : Int32) (q_number : Int32) (q_word : Int64) (q_fault : Int32) (q_line : Int32) (q_foundPains : Int32) (q_foundLine : Int32) (q_st : Nat → Int32) (q_before : Nat → Int32) (q_kept : Nat → Int32) (q_isKept : Nat → Int32) (q_refused : Nat → Int32) (q_text : Nat → Int32) (q_ones : Nat → Int32) (q_said : Nat → Int32) (q_readTable : Nat → Int32) (q_least : Nat → Int32) (q_made : Nat → Int32) (q_enough : Nat → Int32) (q_isWanted : Nat → Int32) (q_column : Nat → Int32) (q_foundColumn : Nat → Int32) (q_walls : Nat → Int64) (q_wallMany : Nat → Int32) (q_chosen : Nat → Int32) (r : Int32 × Int32 × Int32 × Int32) : Option Value → mm_W → Prop := fun rv w => rv = none ∧ w = (W_X8 q_textSize q_cursor q_start q_token q_number q_word q_fault q_line q_foundPains q_foundLine r.1 r.2.1 r.2.2.1 r.2.2.2 q_st q_before q_kept q_isKept q_refused q_text q_ones q_said q_readTable q_least q_made q_enough q_isWanted q_column q_foundColumn q_walls q_wallMany q_chosen)
def X8_tryDead_J41 (fu : Nat)  (q_deadMany : Int32) (q_deadSize : Int32) (q_deadLeast : Int32) (q_deadMost : Int32) (q_st : Nat → Int32) (q_ones : Nat → Int32)   : Option (Int32 × Int32 × Int32 × Int32) := some (q_deadMany + (1 : Int32), q_deadSize, q_deadLeast, q_deadMost)
set_option maxHeartbeats 4000000 in
set_option maxRecDepth 100000 in
theorem s_X8_tryDead_J41 {fu : Nat} {q_textSize : Int32} {q_cursor : Int32} {q_start : Int32} {q_token : Int32} {q_number : Int32} {q_word : Int64} {q_fault : Int32} {q_line : Int32} {q_foundPains : Int32} {q_foundLine : Int32} {q_deadMany : Int32} {q_deadSize : Int32} {q_deadLeast : Int32} {q_deadMost : Int32} {q_st : Nat → Int32} {q_before : Nat → Int32} {q_kept : Nat → Int32} {q_isKept : Nat → Int32} {q_refused : Nat → Int32} {q_text : Nat → Int32} {q_ones : Nat → Int32} {q_said : Nat → Int32} {q_readTable : Nat → Int32} {q_least : Nat → Int32} {q_made : Nat → Int32} {q_enough : Nat → Int32} {q_isWanted : Nat → Int32} {q_column : Nat → Int32} {q_foundColumn : Nat → Int32} {q_walls : Nat → Int64} {q_wallMany : Nat → Int32} {q_chosen : Nat → Int32} {r : Int32 × Int32 × Int32 × Int32} (h : X8_tryDead_J41 fu q_deadMany q_deadSize q_deadLeast q_deadMost q_st q_ones = some r) : mm_Wp mX8_tryDead (mm_R (P_X8_tryDead q_textSize q_cursor q_start q_token q_number q_word q_fault q_line q_foundPains q_foundLine q_st q_before q_kept q_isKept q_refused q_text q_ones q_said q_readTable q_least q_made q_enough q_isWanted q_column q_foundColumn q_walls q_wallMany q_chosen r)) 0 0 41 [(0, .ref 0)] [] (W_X8 q_textSize q_cursor q_start q_token q_number q_word q_fault q_line q_foundPains q_foundLine q_deadMany q_deadSize q_deadLeast q_deadMost q_st q_before q_kept q_isKept q_refused q_text q_ones q_said q_readTable q_least q_made q_enough q_isWanted q_column q_foundColumn q_walls q_wallMany q_chosen) := by
  rw [X8_tryDead_J41] at h
  refine mm_aload_n 0 dX8_tryDead_41 rfl rfl (pc' := 42) rfl ?_
  refine mm_dup dX8_tryDead_42 rfl (pc' := 43) rfl ?_
  refine mm_getf fG_X8_271 dX8_tryDead_43 rfl rfl (pc' := 46) rfl ?_
  refine mm_iconst dX8_tryDead_46 ki_1 (pc' := 47) rfl ?_
  refine mm_iadd dX8_tryDead_47 (pc' := 48) rfl ?_
  refine mm_putf fP_X8_271 dX8_tryDead_48 rfl (Nat.le_of_ble_eq_true rfl) (fun _ => rfl) (fun _ => rfl) (ws' := (W_X8 q_textSize q_cursor q_start q_token q_number q_word q_fault q_line q_foundPains q_foundLine (q_deadMany + (1 : Int32)) q_deadSize q_deadLeast q_deadMost q_st q_before q_kept q_isKept q_refused q_text q_ones q_said q_readTable q_least q_made q_enough q_isWanted q_column q_foundColumn q_walls q_wallMany q_chosen)) rfl (pc' := 51) rfl ?_
  have h9 := Option.some.inj h
  subst h9
  exact mm_vret rfl dX8_tryDead_51 ⟨rfl, rfl⟩
def X8_tryDead_J38 (fu : Nat)  (q_deadMany : Int32) (q_deadSize : Int32) (q_deadLeast : Int32) (q_deadMost : Int32) (q_st : Nat → Int32) (q_ones : Nat → Int32)  (s0 : Int32) : Option (Int32 × Int32 × Int32 × Int32) := X8_tryDead_J41 fu q_deadMany q_deadSize q_deadLeast s0 q_st q_ones
set_option maxHeartbeats 4000000 in
set_option maxRecDepth 100000 in
theorem s_X8_tryDead_J38 {fu : Nat} {q_textSize : Int32} {q_cursor : Int32} {q_start : Int32} {q_token : Int32} {q_number : Int32} {q_word : Int64} {q_fault : Int32} {q_line : Int32} {q_foundPains : Int32} {q_foundLine : Int32} {q_deadMany : Int32} {q_deadSize : Int32} {q_deadLeast : Int32} {q_deadMost : Int32} {q_st : Nat → Int32} {q_before : Nat → Int32} {q_kept : Nat → Int32} {q_isKept : Nat → Int32} {q_refused : Nat → Int32} {q_text : Nat → Int32} {q_ones : Nat → Int32} {q_said : Nat → Int32} {q_readTable : Nat → Int32} {q_least : Nat → Int32} {q_made : Nat → Int32} {q_enough : Nat → Int32} {q_isWanted : Nat → Int32} {q_column : Nat → Int32} {q_foundColumn : Nat → Int32} {q_walls : Nat → Int64} {q_wallMany : Nat → Int32} {q_chosen : Nat → Int32} {r : Int32 × Int32 × Int32 × Int32} {s0 : Int32} (h : X8_tryDead_J38 fu q_deadMany q_deadSize q_deadLeast q_deadMost q_st q_ones s0 = some r) : mm_Wp mX8_tryDead (mm_R (P_X8_tryDead q_textSize q_cursor q_start q_token q_number q_word q_fault q_line q_foundPains q_foundLine q_st q_before q_kept q_isKept q_refused q_text q_ones q_said q_readTable q_least q_made q_enough q_isWanted q_column q_foundColumn q_walls q_wallMany q_chosen r)) 0 0 38 [(0, .ref 0)] [.int s0, .ref 0] (W_X8 q_textSize q_cursor q_start q_token q_number q_word q_fault q_line q_foundPains q_foundLine q_deadMany q_deadSize q_deadLeast q_deadMost q_st q_before q_kept q_isKept q_refused q_text q_ones q_said q_readTable q_least q_made q_enough q_isWanted q_column q_foundColumn q_walls q_wallMany q_chosen) := by
  rw [X8_tryDead_J38] at h
  refine mm_putf fP_X8_280 dX8_tryDead_38 rfl (Nat.le_of_ble_eq_true rfl) (fun _ => rfl) (fun _ => rfl) (ws' := (W_X8 q_textSize q_cursor q_start q_token q_number q_word q_fault q_line q_foundPains q_foundLine q_deadMany q_deadSize q_deadLeast s0 q_st q_before q_kept q_isKept q_refused q_text q_ones q_said q_readTable q_least q_made q_enough q_isWanted q_column q_foundColumn q_walls q_wallMany q_chosen)) rfl (pc' := 41) rfl ?_
  exact s_X8_tryDead_J41  h
def f_X8_tryDead (fu : Nat) (q_deadMany : Int32) (q_deadSize : Int32) (q_deadLeast : Int32) (q_deadMost : Int32) (q_st : Nat → Int32) (q_ones : Nat → Int32) (v1 : Int32) (v2 : Int32) (v3 : Int32) : Option (Int32 × Int32 × Int32 × Int32) := (f_X8_areSo fu q_st q_ones v2 v3).bind fun t3 => if t3 = 0 then (some (q_deadMany, q_deadSize, q_deadLeast, q_deadMost)) else (if q_deadMany = 0 then (if v1 = (2 : Int32) then (X8_tryDead_J38 fu q_deadMany v1 v2 q_deadMost q_st q_ones v3) else (X8_tryDead_J38 fu q_deadMany v1 v2 q_deadMost q_st q_ones v2)) else (X8_tryDead_J41 fu q_deadMany q_deadSize q_deadLeast q_deadMost q_st q_ones))
set_option maxHeartbeats 4000000 in
set_option maxRecDepth 100000 in
theorem ok_X8_tryDead {fu : Nat} {q_textSize : Int32} {q_cursor : Int32} {q_start : Int32} {q_token : Int32} {q_number : Int32} {q_word : Int64} {q_fault : Int32} {q_line : Int32} {q_foundPains : Int32} {q_foundLine : Int32} {q_deadMany : Int32} {q_deadSize : Int32} {q_deadLeast : Int32} {q_deadMost : Int32} {q_st : Nat → Int32} {q_before : Nat → Int32} {q_kept : Nat → Int32} {q_isKept : Nat → Int32} {q_refused : Nat → Int32} {q_text : Nat → Int32} {q_ones : Nat → Int32} {q_said : Nat → Int32} {q_readTable : Nat → Int32} {q_least : Nat → Int32} {q_made : Nat → Int32} {q_enough : Nat → Int32} {q_isWanted : Nat → Int32} {q_column : Nat → Int32} {q_foundColumn : Nat → Int32} {q_walls : Nat → Int64} {q_wallMany : Nat → Int32} {q_chosen : Nat → Int32} {r : Int32 × Int32 × Int32 × Int32} {v1 : Int32} {v2 : Int32} {v3 : Int32} (h : f_X8_tryDead fu q_deadMany q_deadSize q_deadLeast q_deadMost q_st q_ones v1 v2 v3 = some r) : mm_Ok mX8_tryDead [.ref 0, .int v1, .int v2, .int v3] (W_X8 q_textSize q_cursor q_start q_token q_number q_word q_fault q_line q_foundPains q_foundLine q_deadMany q_deadSize q_deadLeast q_deadMost q_st q_before q_kept q_isKept q_refused q_text q_ones q_said q_readTable q_least q_made q_enough q_isWanted q_column q_foundColumn q_walls q_wallMany q_chosen) (P_X8_tryDead q_textSize q_cursor q_start q_token q_number q_word q_fault q_line q_foundPains q_foundLine q_st q_before q_kept q_isKept q_refused q_text q_ones q_said q_readTable q_least q_made q_enough q_isWanted q_column q_foundColumn q_walls q_wallMany q_chosen r) := by
  rw [f_X8_tryDead] at h
  refine mm_Ok.of pn_X8 (l := [(0, .ref 0), (1, .int v1), (2, .int v2), (3, .int v3)]) rfl (Nat.le_of_ble_eq_true rfl) ?_
  refine mm_aload_n 0 dX8_tryDead_0 rfl rfl (pc' := 1) rfl ?_
  refine mm_iload_n 2 dX8_tryDead_1 rfl rfl (pc' := 2) rfl ?_
  refine mm_iload_n 3 dX8_tryDead_2 rfl rfl (pc' := 3) rfl ?_
  obtain ⟨t3, h3, h⟩ := mm_bd h
  refine mm_call0 (As := [.int v2, .int v3]) (rest := []) cV_X8_268 (ok_X8_areSo h3) ⟨rfl, rfl, Nat.le_of_ble_eq_true rfl, Nat.le_of_ble_eq_true rfl⟩ dX8_tryDead_3 rfl rfl rfl rfl (by rintro _ _ ⟨-, rfl⟩; rfl) (Nat.le_of_ble_eq_true rfl) ⟨Nat.le_of_ble_eq_true rfl, Nat.le_of_ble_eq_true rfl⟩ (pc' := 6) rfl ?_
  rintro rv w ⟨rfl, rfl⟩
  show mm_Wp _ _ _ _ 6 [(0, .ref 0), (1, .int v1), (2, .int v2), (3, .int v3)] [.int t3] (W_X8 q_textSize q_cursor q_start q_token q_number q_word q_fault q_line q_foundPains q_foundLine q_deadMany q_deadSize q_deadLeast q_deadMost q_st q_before q_kept q_isKept q_refused q_text q_ones q_said q_readTable q_least q_made q_enough q_isWanted q_column q_foundColumn q_walls q_wallMany q_chosen)
  clear h3
  refine mm_if_ne (tgt := 10) dX8_tryDead_6 (by decide) (pc' := 9) rfl (fun c => ?_) (fun c => ?_)
  · replace h := mm_if h c
    clear c
    refine mm_aload_n 0 dX8_tryDead_10 rfl rfl (pc' := 11) rfl ?_
    refine mm_getf fG_X8_271 dX8_tryDead_11 rfl rfl (pc' := 14) rfl ?_
    refine mm_if_ne (tgt := 41) dX8_tryDead_14 (by decide) (pc' := 17) rfl (fun c => ?_) (fun c => ?_)
    · replace h := mm_if h c
      clear c
      exact mm_sub [0] rfl (s_X8_tryDead_J41  h)
    · replace h := mm_it h c
      clear c
      refine mm_aload_n 0 dX8_tryDead_17 rfl rfl (pc' := 18) rfl ?_
      refine mm_iload_n 1 dX8_tryDead_18 rfl rfl (pc' := 19) rfl ?_
      refine mm_putf fP_X8_274 dX8_tryDead_19 rfl (Nat.le_of_ble_eq_true rfl) (fun _ => rfl) (fun _ => rfl) (ws' := (W_X8 q_textSize q_cursor q_start q_token q_number q_word q_fault q_line q_foundPains q_foundLine q_deadMany v1 q_deadLeast q_deadMost q_st q_before q_kept q_isKept q_refused q_text q_ones q_said q_readTable q_least q_made q_enough q_isWanted q_column q_foundColumn q_walls q_wallMany q_chosen)) rfl (pc' := 22) rfl ?_
      refine mm_aload_n 0 dX8_tryDead_22 rfl rfl (pc' := 23) rfl ?_
      refine mm_iload_n 2 dX8_tryDead_23 rfl rfl (pc' := 24) rfl ?_
      refine mm_putf fP_X8_277 dX8_tryDead_24 rfl (Nat.le_of_ble_eq_true rfl) (fun _ => rfl) (fun _ => rfl) (ws' := (W_X8 q_textSize q_cursor q_start q_token q_number q_word q_fault q_line q_foundPains q_foundLine q_deadMany v1 v2 q_deadMost q_st q_before q_kept q_isKept q_refused q_text q_ones q_said q_readTable q_least q_made q_enough q_isWanted q_column q_foundColumn q_walls q_wallMany q_chosen)) rfl (pc' := 27) rfl ?_
      refine mm_aload_n 0 dX8_tryDead_27 rfl rfl (pc' := 28) rfl ?_
      refine mm_iload_n 1 dX8_tryDead_28 rfl rfl (pc' := 29) rfl ?_
      refine mm_iconst dX8_tryDead_29 ki_2 (pc' := 30) rfl ?_
      refine mm_icmp_ne (tgt := 37) dX8_tryDead_30 (by decide) (pc' := 33) rfl (fun c => ?_) (fun c => ?_)
      · replace h := mm_if h c
        clear c
        refine mm_iload_n 2 dX8_tryDead_37 rfl rfl (pc' := 38) rfl ?_
        exact mm_sub [0] rfl (s_X8_tryDead_J38  h)
      · replace h := mm_it h c
        clear c
        refine mm_iload_n 3 dX8_tryDead_33 rfl rfl (pc' := 34) rfl ?_
        refine mm_goto (tgt := 38) dX8_tryDead_34 (by decide) ?_
        exact mm_sub [0] rfl (s_X8_tryDead_J38  h)
  · replace h := mm_it h c
    clear c
    have h9 := Option.some.inj h
    subst h9
    exact mm_vret rfl dX8_tryDead_9 ⟨rfl, rfl⟩

def P_X8_dead (q_textSize : Int32) (q_cursor : Int32) (q_start : Int32) (q_token : Int32) (q_number : Int32) (q_word : Int64) (q_fault : Int32) (q_line : Int32) (q_foundPains : Int32) (q_foundLine : Int32) (q_st : Nat → Int32) (q_before : Nat → Int32) (q_kept : Nat → Int32) (q_isKept : Nat → Int32) (q_text : Nat → Int32) (q_ones : Nat → Int32) (q_said : Nat → Int32) (q_readTable : Nat → Int32) (q_least : Nat → Int32) (q_made : Nat → Int32) (q_enough : Nat → Int32) (q_isWanted : Nat → Int32) (q_column : Nat → Int32) (q_foundColumn : Nat → Int32) (q_walls : Nat → Int64) (q_wallMany : Nat → Int32) (q_chosen : Nat → Int32) (r : Int32 × Int32 × Int32 × Int32 × Int32 × (Nat → Int32)) : Option Value → mm_W → Prop := fun rv w => rv = some (.int r.1) ∧ w = (W_X8 q_textSize q_cursor q_start q_token q_number q_word q_fault q_line q_foundPains q_foundLine r.2.1 r.2.2.1 r.2.2.2.1 r.2.2.2.2.1 q_st q_before q_kept q_isKept r.2.2.2.2.2 q_text q_ones q_said q_readTable q_least q_made q_enough q_isWanted q_column q_foundColumn q_walls q_wallMany q_chosen)
def X8_dead_J98 (fu : Nat) (rec59 : Int32 → Int32 → Int32 → Int32 → Int32 → Option (Int32 × Int32 × Int32 × Int32 × Int32 × (Nat → Int32))) (rec69 : Int32 → Int32 → Int32 → Int32 → Int32 → Option (Int32 × Int32 × Int32 × Int32 × Int32 × (Nat → Int32))) (q_deadMany : Int32) (q_deadSize : Int32) (q_deadLeast : Int32) (q_deadMost : Int32) (q_st : Nat → Int32) (q_refused : Nat → Int32) (q_ones : Nat → Int32) (v1 : Int32) (v2 : Int32) (v3 : Int32)  : Option (Int32 × Int32 × Int32 × Int32 × Int32 × (Nat → Int32)) := rec69 q_deadMany q_deadSize q_deadLeast q_deadMost (v3 + (1 : Int32))
set_option maxHeartbeats 4000000 in
set_option maxRecDepth 100000 in
theorem s_X8_dead_J98 {fu : Nat} {q_textSize : Int32} {q_cursor : Int32} {q_start : Int32} {q_token : Int32} {q_number : Int32} {q_word : Int64} {q_fault : Int32} {q_line : Int32} {q_foundPains : Int32} {q_foundLine : Int32} {q_deadMany : Int32} {q_deadSize : Int32} {q_deadLeast : Int32} {q_deadMost : Int32} {q_st : Nat → Int32} {q_before : Nat → Int32} {q_kept : Nat → Int32} {q_isKept : Nat → Int32} {q_refused : Nat → Int32} {q_text : Nat → Int32} {q_ones : Nat → Int32} {q_said : Nat → Int32} {q_readTable : Nat → Int32} {q_least : Nat → Int32} {q_made : Nat → Int32} {q_enough : Nat → Int32} {q_isWanted : Nat → Int32} {q_column : Nat → Int32} {q_foundColumn : Nat → Int32} {q_walls : Nat → Int64} {q_wallMany : Nat → Int32} {q_chosen : Nat → Int32} {r : Int32 × Int32 × Int32 × Int32 × Int32 × (Nat → Int32)} {rec59 : Int32 → Int32 → Int32 → Int32 → Int32 → Option (Int32 × Int32 × Int32 × Int32 × Int32 × (Nat → Int32))} {rec69 : Int32 → Int32 → Int32 → Int32 → Int32 → Option (Int32 × Int32 × Int32 × Int32 × Int32 × (Nat → Int32))} {v1 : Int32} {v2 : Int32} {v3 : Int32} (hr59 : ∀ (z_q_deadMany : Int32) (z_q_deadSize : Int32) (z_q_deadLeast : Int32) (z_q_deadMost : Int32) (y2 : Int32), rec59 z_q_deadMany z_q_deadSize z_q_deadLeast z_q_deadMost y2 = some r → mm_Wp mX8_dead (mm_R (P_X8_dead q_textSize q_cursor q_start q_token q_number q_word q_fault q_line q_foundPains q_foundLine q_st q_before q_kept q_isKept q_text q_ones q_said q_readTable q_least q_made q_enough q_isWanted q_column q_foundColumn q_walls q_wallMany q_chosen r)) 0 0 59 [(0, .ref 0), (1, .int v1), (2, .int y2)] [] (W_X8 q_textSize q_cursor q_start q_token q_number q_word q_fault q_line q_foundPains q_foundLine z_q_deadMany z_q_deadSize z_q_deadLeast z_q_deadMost q_st q_before q_kept q_isKept q_refused q_text q_ones q_said q_readTable q_least q_made q_enough q_isWanted q_column q_foundColumn q_walls q_wallMany q_chosen)) (hr69 : ∀ (z_q_deadMany : Int32) (z_q_deadSize : Int32) (z_q_deadLeast : Int32) (z_q_deadMost : Int32) (y3 : Int32), rec69 z_q_deadMany z_q_deadSize z_q_deadLeast z_q_deadMost y3 = some r → mm_Wp mX8_dead (mm_R (P_X8_dead q_textSize q_cursor q_start q_token q_number q_word q_fault q_line q_foundPains q_foundLine q_st q_before q_kept q_isKept q_text q_ones q_said q_readTable q_least q_made q_enough q_isWanted q_column q_foundColumn q_walls q_wallMany q_chosen r)) 0 0 69 [(0, .ref 0), (1, .int v1), (2, .int v2), (3, .int y3)] [] (W_X8 q_textSize q_cursor q_start q_token q_number q_word q_fault q_line q_foundPains q_foundLine z_q_deadMany z_q_deadSize z_q_deadLeast z_q_deadMost q_st q_before q_kept q_isKept q_refused q_text q_ones q_said q_readTable q_least q_made q_enough q_isWanted q_column q_foundColumn q_walls q_wallMany q_chosen)) (h : X8_dead_J98 fu rec59 rec69 q_deadMany q_deadSize q_deadLeast q_deadMost q_st q_refused q_ones v1 v2 v3 = some r) : mm_Wp mX8_dead (mm_R (P_X8_dead q_textSize q_cursor q_start q_token q_number q_word q_fault q_line q_foundPains q_foundLine q_st q_before q_kept q_isKept q_text q_ones q_said q_readTable q_least q_made q_enough q_isWanted q_column q_foundColumn q_walls q_wallMany q_chosen r)) 0 0 98 [(0, .ref 0), (1, .int v1), (2, .int v2), (3, .int v3)] [] (W_X8 q_textSize q_cursor q_start q_token q_number q_word q_fault q_line q_foundPains q_foundLine q_deadMany q_deadSize q_deadLeast q_deadMost q_st q_before q_kept q_isKept q_refused q_text q_ones q_said q_readTable q_least q_made q_enough q_isWanted q_column q_foundColumn q_walls q_wallMany q_chosen) := by
  rw [X8_dead_J98] at h
  refine mm_iinc 3 dX8_dead_98 rfl ki_1 (by decide) (l' := [(3, .int (v3 + (1 : Int32))), (0, .ref 0), (1, .int v1), (2, .int v2)]) rfl (pc' := 101) rfl ?_
  refine mm_goto (tgt := 69) dX8_dead_101 (by decide) ?_
  exact mm_sub [1, 2, 3, 0] rfl (hr69 _ _ _ _ _ h)
def X8_dead_L69 (fu : Nat) (rec59 : Int32 → Int32 → Int32 → Int32 → Int32 → Option (Int32 × Int32 × Int32 × Int32 × Int32 × (Nat → Int32))) (q_st : Nat → Int32) (q_refused : Nat → Int32) (q_ones : Nat → Int32) (v1 : Int32) (v2 : Int32) : Nat → Int32 → Int32 → Int32 → Int32 → Int32 → Option (Int32 × Int32 × Int32 × Int32 × Int32 × (Nat → Int32))
  | 0, _, _, _, _, _ => none
  | n + 1, q_deadMany, q_deadSize, q_deadLeast, q_deadMost, v3 => if (60 : Int32) ≤ v3 then (rec59 q_deadMany q_deadSize q_deadLeast q_deadMost (v2 + (1 : Int32))) else ((f_X8_isWindow fu q_st v2).bind fun t77 => if t77 = 0 then (X8_dead_J98 fu rec59 (X8_dead_L69 fu rec59 q_st q_refused q_ones v1 v2 n) q_deadMany q_deadSize q_deadLeast q_deadMost q_st q_refused q_ones v1 v2 v3) else ((f_X8_isWindow fu q_st v3).bind fun t85 => if t85 = 0 then (X8_dead_J98 fu rec59 (X8_dead_L69 fu rec59 q_st q_refused q_ones v1 v2 n) q_deadMany q_deadSize q_deadLeast q_deadMost q_st q_refused q_ones v1 v2 v3) else ((f_X8_tryDead fu q_deadMany q_deadSize q_deadLeast q_deadMost q_st q_ones (2 : Int32) v2 v3).bind fun t95 => X8_dead_J98 fu rec59 (X8_dead_L69 fu rec59 q_st q_refused q_ones v1 v2 n) t95.1 t95.2.1 t95.2.2.1 t95.2.2.2 q_st q_refused q_ones v1 v2 v3)))
set_option maxHeartbeats 4000000 in
set_option maxRecDepth 100000 in
theorem s_X8_dead_L69 {fu : Nat} {q_textSize : Int32} {q_cursor : Int32} {q_start : Int32} {q_token : Int32} {q_number : Int32} {q_word : Int64} {q_fault : Int32} {q_line : Int32} {q_foundPains : Int32} {q_foundLine : Int32} {q_st : Nat → Int32} {q_before : Nat → Int32} {q_kept : Nat → Int32} {q_isKept : Nat → Int32} {q_refused : Nat → Int32} {q_text : Nat → Int32} {q_ones : Nat → Int32} {q_said : Nat → Int32} {q_readTable : Nat → Int32} {q_least : Nat → Int32} {q_made : Nat → Int32} {q_enough : Nat → Int32} {q_isWanted : Nat → Int32} {q_column : Nat → Int32} {q_foundColumn : Nat → Int32} {q_walls : Nat → Int64} {q_wallMany : Nat → Int32} {q_chosen : Nat → Int32} {r : Int32 × Int32 × Int32 × Int32 × Int32 × (Nat → Int32)} {rec59 : Int32 → Int32 → Int32 → Int32 → Int32 → Option (Int32 × Int32 × Int32 × Int32 × Int32 × (Nat → Int32))} {v1 : Int32} {v2 : Int32} (hr59 : ∀ (z_q_deadMany : Int32) (z_q_deadSize : Int32) (z_q_deadLeast : Int32) (z_q_deadMost : Int32) (y2 : Int32), rec59 z_q_deadMany z_q_deadSize z_q_deadLeast z_q_deadMost y2 = some r → mm_Wp mX8_dead (mm_R (P_X8_dead q_textSize q_cursor q_start q_token q_number q_word q_fault q_line q_foundPains q_foundLine q_st q_before q_kept q_isKept q_text q_ones q_said q_readTable q_least q_made q_enough q_isWanted q_column q_foundColumn q_walls q_wallMany q_chosen r)) 0 0 59 [(0, .ref 0), (1, .int v1), (2, .int y2)] [] (W_X8 q_textSize q_cursor q_start q_token q_number q_word q_fault q_line q_foundPains q_foundLine z_q_deadMany z_q_deadSize z_q_deadLeast z_q_deadMost q_st q_before q_kept q_isKept q_refused q_text q_ones q_said q_readTable q_least q_made q_enough q_isWanted q_column q_foundColumn q_walls q_wallMany q_chosen)) : ∀ (n : Nat) (q_deadMany : Int32) (q_deadSize : Int32) (q_deadLeast : Int32) (q_deadMost : Int32) (v3 : Int32), X8_dead_L69 fu rec59 q_st q_refused q_ones v1 v2 n q_deadMany q_deadSize q_deadLeast q_deadMost v3 = some r → mm_Wp mX8_dead (mm_R (P_X8_dead q_textSize q_cursor q_start q_token q_number q_word q_fault q_line q_foundPains q_foundLine q_st q_before q_kept q_isKept q_text q_ones q_said q_readTable q_least q_made q_enough q_isWanted q_column q_foundColumn q_walls q_wallMany q_chosen r)) 0 0 69 [(0, .ref 0), (1, .int v1), (2, .int v2), (3, .int v3)] [] (W_X8 q_textSize q_cursor q_start q_token q_number q_word q_fault q_line q_foundPains q_foundLine q_deadMany q_deadSize q_deadLeast q_deadMost q_st q_before q_kept q_isKept q_refused q_text q_ones q_said q_readTable q_least q_made q_enough q_isWanted q_column q_foundColumn q_walls q_wallMany q_chosen) := by
  intro n
  induction n with
  | zero =>
    intro q_deadMany q_deadSize q_deadLeast q_deadMost v3 h
    rw [X8_dead_L69] at h
    cases h
  | succ n hr69 =>
    intro q_deadMany q_deadSize q_deadLeast q_deadMost v3 h
    rw [X8_dead_L69] at h
    refine mm_iload_n 3 dX8_dead_69 rfl rfl (pc' := 70) rfl ?_
    refine mm_bipush dX8_dead_70 kb_60 (pc' := 72) rfl ?_
    refine mm_icmp_ge (tgt := 104) dX8_dead_72 (by decide) (pc' := 75) rfl (fun c => ?_) (fun c => ?_)
    · replace h := mm_it h c
      clear c
      refine mm_iinc 2 dX8_dead_104 rfl ki_1 (by decide) (l' := [(2, .int (v2 + (1 : Int32))), (0, .ref 0), (1, .int v1), (3, .int v3)]) rfl (pc' := 107) rfl ?_
      refine mm_goto (tgt := 59) dX8_dead_107 (by decide) ?_
      exact mm_sub [1, 2, 0] rfl (hr59 _ _ _ _ _ h)
    · replace h := mm_if h c
      clear c
      refine mm_aload_n 0 dX8_dead_75 rfl rfl (pc' := 76) rfl ?_
      refine mm_iload_n 2 dX8_dead_76 rfl rfl (pc' := 77) rfl ?_
      obtain ⟨t77, h77, h⟩ := mm_bd h
      refine mm_call0 (As := [.int v2]) (rest := []) cV_X8_78 (ok_X8_isWindow h77) ⟨rfl, rfl, Nat.le_of_ble_eq_true rfl, Nat.le_of_ble_eq_true rfl⟩ dX8_dead_77 rfl rfl rfl rfl (by rintro _ _ ⟨-, rfl⟩; rfl) (Nat.le_of_ble_eq_true rfl) ⟨Nat.le_of_ble_eq_true rfl, Nat.le_of_ble_eq_true rfl⟩ (pc' := 80) rfl ?_
      rintro rv w ⟨rfl, rfl⟩
      show mm_Wp _ _ _ _ 80 [(0, .ref 0), (1, .int v1), (2, .int v2), (3, .int v3)] [.int t77] (W_X8 q_textSize q_cursor q_start q_token q_number q_word q_fault q_line q_foundPains q_foundLine q_deadMany q_deadSize q_deadLeast q_deadMost q_st q_before q_kept q_isKept q_refused q_text q_ones q_said q_readTable q_least q_made q_enough q_isWanted q_column q_foundColumn q_walls q_wallMany q_chosen)
      clear h77
      refine mm_if_eq (tgt := 98) dX8_dead_80 (by decide) (pc' := 83) rfl (fun c => ?_) (fun c => ?_)
      · replace h := mm_it h c
        clear c
        exact s_X8_dead_J98 (hr59 := hr59) (hr69 := hr69) h
      · replace h := mm_if h c
        clear c
        refine mm_aload_n 0 dX8_dead_83 rfl rfl (pc' := 84) rfl ?_
        refine mm_iload_n 3 dX8_dead_84 rfl rfl (pc' := 85) rfl ?_
        obtain ⟨t85, h85, h⟩ := mm_bd h
        refine mm_call0 (As := [.int v3]) (rest := []) cV_X8_78 (ok_X8_isWindow h85) ⟨rfl, rfl, Nat.le_of_ble_eq_true rfl, Nat.le_of_ble_eq_true rfl⟩ dX8_dead_85 rfl rfl rfl rfl (by rintro _ _ ⟨-, rfl⟩; rfl) (Nat.le_of_ble_eq_true rfl) ⟨Nat.le_of_ble_eq_true rfl, Nat.le_of_ble_eq_true rfl⟩ (pc' := 88) rfl ?_
        rintro rv w ⟨rfl, rfl⟩
        show mm_Wp _ _ _ _ 88 [(0, .ref 0), (1, .int v1), (2, .int v2), (3, .int v3)] [.int t85] (W_X8 q_textSize q_cursor q_start q_token q_number q_word q_fault q_line q_foundPains q_foundLine q_deadMany q_deadSize q_deadLeast q_deadMost q_st q_before q_kept q_isKept q_refused q_text q_ones q_said q_readTable q_least q_made q_enough q_isWanted q_column q_foundColumn q_walls q_wallMany q_chosen)
        clear h85
        refine mm_if_eq (tgt := 98) dX8_dead_88 (by decide) (pc' := 91) rfl (fun c => ?_) (fun c => ?_)
        · replace h := mm_it h c
          clear c
          exact s_X8_dead_J98 (hr59 := hr59) (hr69 := hr69) h
        · replace h := mm_if h c
          clear c
          refine mm_aload_n 0 dX8_dead_91 rfl rfl (pc' := 92) rfl ?_
          refine mm_iconst dX8_dead_92 ki_2 (pc' := 93) rfl ?_
          refine mm_iload_n 2 dX8_dead_93 rfl rfl (pc' := 94) rfl ?_
          refine mm_iload_n 3 dX8_dead_94 rfl rfl (pc' := 95) rfl ?_
          obtain ⟨t95, h95, h⟩ := mm_bd h
          refine mm_call0 (As := [.int (2 : Int32), .int v2, .int v3]) (rest := []) cV_X8_283 (ok_X8_tryDead h95) ⟨rfl, rfl, Nat.le_of_ble_eq_true rfl, Nat.le_of_ble_eq_true rfl⟩ dX8_dead_95 rfl rfl rfl rfl (by rintro _ _ ⟨-, rfl⟩; rfl) (Nat.le_of_ble_eq_true rfl) ⟨Nat.le_of_ble_eq_true rfl, Nat.le_of_ble_eq_true rfl⟩ (pc' := 98) rfl ?_
          rintro rv w ⟨rfl, rfl⟩
          show mm_Wp _ _ _ _ 98 [(0, .ref 0), (1, .int v1), (2, .int v2), (3, .int v3)] [] (W_X8 q_textSize q_cursor q_start q_token q_number q_word q_fault q_line q_foundPains q_foundLine t95.1 t95.2.1 t95.2.2.1 t95.2.2.2 q_st q_before q_kept q_isKept q_refused q_text q_ones q_said q_readTable q_least q_made q_enough q_isWanted q_column q_foundColumn q_walls q_wallMany q_chosen)
          clear h95
          exact s_X8_dead_J98 (hr59 := hr59) (hr69 := hr69) h
def X8_dead_L59 (fu : Nat)  (q_st : Nat → Int32) (q_refused : Nat → Int32) (q_ones : Nat → Int32) (v1 : Int32) : Nat → Int32 → Int32 → Int32 → Int32 → Int32 → Option (Int32 × Int32 × Int32 × Int32 × Int32 × (Nat → Int32))
  | 0, _, _, _, _, _ => none
  | n + 1, q_deadMany, q_deadSize, q_deadLeast, q_deadMost, v2 => if (60 : Int32) ≤ v2 then (if v1 = 0 then (some (q_deadMany, q_deadMany, q_deadSize, q_deadLeast, q_deadMost, q_refused)) else (if q_deadMany = 0 then ((f_X8_told fu q_refused (-3 : Int32)).bind fun t129 => some (t129.1, q_deadMany, q_deadSize, q_deadLeast, q_deadMost, t129.2)) else (if v1 = (1 : Int32) then (some (q_deadSize, q_deadMany, q_deadSize, q_deadLeast, q_deadMost, q_refused)) else (if v1 = (2 : Int32) then (some (q_deadLeast, q_deadMany, q_deadSize, q_deadLeast, q_deadMost, q_refused)) else (some (q_deadMost, q_deadMany, q_deadSize, q_deadLeast, q_deadMost, q_refused)))))) else (X8_dead_L69 fu (X8_dead_L59 fu q_st q_refused q_ones v1 n) q_st q_refused q_ones v1 v2 fu q_deadMany q_deadSize q_deadLeast q_deadMost (v2 + (1 : Int32)))
set_option maxHeartbeats 4000000 in
set_option maxRecDepth 100000 in
theorem s_X8_dead_L59 {fu : Nat} {q_textSize : Int32} {q_cursor : Int32} {q_start : Int32} {q_token : Int32} {q_number : Int32} {q_word : Int64} {q_fault : Int32} {q_line : Int32} {q_foundPains : Int32} {q_foundLine : Int32} {q_st : Nat → Int32} {q_before : Nat → Int32} {q_kept : Nat → Int32} {q_isKept : Nat → Int32} {q_refused : Nat → Int32} {q_text : Nat → Int32} {q_ones : Nat → Int32} {q_said : Nat → Int32} {q_readTable : Nat → Int32} {q_least : Nat → Int32} {q_made : Nat → Int32} {q_enough : Nat → Int32} {q_isWanted : Nat → Int32} {q_column : Nat → Int32} {q_foundColumn : Nat → Int32} {q_walls : Nat → Int64} {q_wallMany : Nat → Int32} {q_chosen : Nat → Int32} {r : Int32 × Int32 × Int32 × Int32 × Int32 × (Nat → Int32)} {v1 : Int32} : ∀ (n : Nat) (q_deadMany : Int32) (q_deadSize : Int32) (q_deadLeast : Int32) (q_deadMost : Int32) (v2 : Int32), X8_dead_L59 fu q_st q_refused q_ones v1 n q_deadMany q_deadSize q_deadLeast q_deadMost v2 = some r → mm_Wp mX8_dead (mm_R (P_X8_dead q_textSize q_cursor q_start q_token q_number q_word q_fault q_line q_foundPains q_foundLine q_st q_before q_kept q_isKept q_text q_ones q_said q_readTable q_least q_made q_enough q_isWanted q_column q_foundColumn q_walls q_wallMany q_chosen r)) 0 0 59 [(0, .ref 0), (1, .int v1), (2, .int v2)] [] (W_X8 q_textSize q_cursor q_start q_token q_number q_word q_fault q_line q_foundPains q_foundLine q_deadMany q_deadSize q_deadLeast q_deadMost q_st q_before q_kept q_isKept q_refused q_text q_ones q_said q_readTable q_least q_made q_enough q_isWanted q_column q_foundColumn q_walls q_wallMany q_chosen) := by
  intro n
  induction n with
  | zero =>
    intro q_deadMany q_deadSize q_deadLeast q_deadMost v2 h
    rw [X8_dead_L59] at h
    cases h
  | succ n hr59 =>
    intro q_deadMany q_deadSize q_deadLeast q_deadMost v2 h
    rw [X8_dead_L59] at h
    refine mm_iload_n 2 dX8_dead_59 rfl rfl (pc' := 60) rfl ?_
    refine mm_bipush dX8_dead_60 kb_60 (pc' := 62) rfl ?_
    refine mm_icmp_ge (tgt := 110) dX8_dead_62 (by decide) (pc' := 65) rfl (fun c => ?_) (fun c => ?_)
    · replace h := mm_it h c
      clear c
      refine mm_iload_n 1 dX8_dead_110 rfl rfl (pc' := 111) rfl ?_
      refine mm_if_ne (tgt := 119) dX8_dead_111 (by decide) (pc' := 114) rfl (fun c => ?_) (fun c => ?_)
      · replace h := mm_if h c
        clear c
        refine mm_aload_n 0 dX8_dead_119 rfl rfl (pc' := 120) rfl ?_
        refine mm_getf fG_X8_271 dX8_dead_120 rfl rfl (pc' := 123) rfl ?_
        refine mm_if_ne (tgt := 135) dX8_dead_123 (by decide) (pc' := 126) rfl (fun c => ?_) (fun c => ?_)
        · replace h := mm_if h c
          clear c
          refine mm_iload_n 1 dX8_dead_135 rfl rfl (pc' := 136) rfl ?_
          refine mm_iconst dX8_dead_136 ki_1 (pc' := 137) rfl ?_
          refine mm_icmp_ne (tgt := 147) dX8_dead_137 (by decide) (pc' := 140) rfl (fun c => ?_) (fun c => ?_)
          · replace h := mm_if h c
            clear c
            refine mm_iload_n 1 dX8_dead_147 rfl rfl (pc' := 148) rfl ?_
            refine mm_iconst dX8_dead_148 ki_2 (pc' := 149) rfl ?_
            refine mm_icmp_ne (tgt := 159) dX8_dead_149 (by decide) (pc' := 152) rfl (fun c => ?_) (fun c => ?_)
            · replace h := mm_if h c
              clear c
              refine mm_aload_n 0 dX8_dead_159 rfl rfl (pc' := 160) rfl ?_
              refine mm_getf fG_X8_280 dX8_dead_160 rfl rfl (pc' := 163) rfl ?_
              have h9 := Option.some.inj h
              subst h9
              exact mm_iret rfl dX8_dead_163 ⟨rfl, rfl⟩
            · replace h := mm_it h c
              clear c
              refine mm_aload_n 0 dX8_dead_152 rfl rfl (pc' := 153) rfl ?_
              refine mm_getf fG_X8_277 dX8_dead_153 rfl rfl (pc' := 156) rfl ?_
              refine mm_goto (tgt := 163) dX8_dead_156 (by decide) ?_
              have h9 := Option.some.inj h
              subst h9
              exact mm_iret rfl dX8_dead_163 ⟨rfl, rfl⟩
          · replace h := mm_it h c
            clear c
            refine mm_aload_n 0 dX8_dead_140 rfl rfl (pc' := 141) rfl ?_
            refine mm_getf fG_X8_274 dX8_dead_141 rfl rfl (pc' := 144) rfl ?_
            refine mm_goto (tgt := 163) dX8_dead_144 (by decide) ?_
            have h9 := Option.some.inj h
            subst h9
            exact mm_iret rfl dX8_dead_163 ⟨rfl, rfl⟩
        · replace h := mm_it h c
          clear c
          refine mm_aload_n 0 dX8_dead_126 rfl rfl (pc' := 127) rfl ?_
          refine mm_bipush dX8_dead_127 kb_m3 (pc' := 129) rfl ?_
          obtain ⟨t129, h129, h⟩ := mm_bd h
          refine mm_call0 (As := [.int (-3 : Int32)]) (rest := []) cV_X8_92 (ok_X8_told h129) ⟨rfl, rfl, Nat.le_of_ble_eq_true rfl, Nat.le_of_ble_eq_true rfl⟩ dX8_dead_129 rfl rfl rfl rfl (by rintro _ _ ⟨-, rfl⟩; rfl) (Nat.le_of_ble_eq_true rfl) ⟨Nat.le_of_ble_eq_true rfl, Nat.le_of_ble_eq_true rfl⟩ (pc' := 132) rfl ?_
          rintro rv w ⟨rfl, rfl⟩
          show mm_Wp _ _ _ _ 132 [(0, .ref 0), (1, .int v1), (2, .int v2)] [.int t129.1] (W_X8 q_textSize q_cursor q_start q_token q_number q_word q_fault q_line q_foundPains q_foundLine q_deadMany q_deadSize q_deadLeast q_deadMost q_st q_before q_kept q_isKept t129.2 q_text q_ones q_said q_readTable q_least q_made q_enough q_isWanted q_column q_foundColumn q_walls q_wallMany q_chosen)
          clear h129
          refine mm_goto (tgt := 163) dX8_dead_132 (by decide) ?_
          have h9 := Option.some.inj h
          subst h9
          exact mm_iret rfl dX8_dead_163 ⟨rfl, rfl⟩
      · replace h := mm_it h c
        clear c
        refine mm_aload_n 0 dX8_dead_114 rfl rfl (pc' := 115) rfl ?_
        refine mm_getf fG_X8_271 dX8_dead_115 rfl rfl (pc' := 118) rfl ?_
        have h9 := Option.some.inj h
        subst h9
        exact mm_iret rfl dX8_dead_118 ⟨rfl, rfl⟩
    · replace h := mm_if h c
      clear c
      refine mm_iload_n 2 dX8_dead_65 rfl rfl (pc' := 66) rfl ?_
      refine mm_iconst dX8_dead_66 ki_1 (pc' := 67) rfl ?_
      refine mm_iadd dX8_dead_67 (pc' := 68) rfl ?_
      refine mm_istore_n dX8_dead_68 rfl (by decide) (l' := [(3, .int (v2 + (1 : Int32))), (0, .ref 0), (1, .int v1), (2, .int v2)]) rfl (pc' := 69) rfl ?_
      exact mm_sub [1, 2, 3, 0] rfl (s_X8_dead_L69 (hr59 := hr59) _ _ _ _ _ _ h)
def X8_dead_J51 (fu : Nat) (rec30 : Int32 → Int32 → Int32 → Int32 → Int32 → Option (Int32 × Int32 × Int32 × Int32 × Int32 × (Nat → Int32))) (q_deadMany : Int32) (q_deadSize : Int32) (q_deadLeast : Int32) (q_deadMost : Int32) (q_st : Nat → Int32) (q_refused : Nat → Int32) (q_ones : Nat → Int32) (v1 : Int32) (v2 : Int32)  : Option (Int32 × Int32 × Int32 × Int32 × Int32 × (Nat → Int32)) := rec30 q_deadMany q_deadSize q_deadLeast q_deadMost (v2 + (1 : Int32))
set_option maxHeartbeats 4000000 in
set_option maxRecDepth 100000 in
theorem s_X8_dead_J51 {fu : Nat} {q_textSize : Int32} {q_cursor : Int32} {q_start : Int32} {q_token : Int32} {q_number : Int32} {q_word : Int64} {q_fault : Int32} {q_line : Int32} {q_foundPains : Int32} {q_foundLine : Int32} {q_deadMany : Int32} {q_deadSize : Int32} {q_deadLeast : Int32} {q_deadMost : Int32} {q_st : Nat → Int32} {q_before : Nat → Int32} {q_kept : Nat → Int32} {q_isKept : Nat → Int32} {q_refused : Nat → Int32} {q_text : Nat → Int32} {q_ones : Nat → Int32} {q_said : Nat → Int32} {q_readTable : Nat → Int32} {q_least : Nat → Int32} {q_made : Nat → Int32} {q_enough : Nat → Int32} {q_isWanted : Nat → Int32} {q_column : Nat → Int32} {q_foundColumn : Nat → Int32} {q_walls : Nat → Int64} {q_wallMany : Nat → Int32} {q_chosen : Nat → Int32} {r : Int32 × Int32 × Int32 × Int32 × Int32 × (Nat → Int32)} {rec30 : Int32 → Int32 → Int32 → Int32 → Int32 → Option (Int32 × Int32 × Int32 × Int32 × Int32 × (Nat → Int32))} {v1 : Int32} {v2 : Int32} (hr30 : ∀ (z_q_deadMany : Int32) (z_q_deadSize : Int32) (z_q_deadLeast : Int32) (z_q_deadMost : Int32) (y2 : Int32), rec30 z_q_deadMany z_q_deadSize z_q_deadLeast z_q_deadMost y2 = some r → mm_Wp mX8_dead (mm_R (P_X8_dead q_textSize q_cursor q_start q_token q_number q_word q_fault q_line q_foundPains q_foundLine q_st q_before q_kept q_isKept q_text q_ones q_said q_readTable q_least q_made q_enough q_isWanted q_column q_foundColumn q_walls q_wallMany q_chosen r)) 0 0 30 [(0, .ref 0), (1, .int v1), (2, .int y2)] [] (W_X8 q_textSize q_cursor q_start q_token q_number q_word q_fault q_line q_foundPains q_foundLine z_q_deadMany z_q_deadSize z_q_deadLeast z_q_deadMost q_st q_before q_kept q_isKept q_refused q_text q_ones q_said q_readTable q_least q_made q_enough q_isWanted q_column q_foundColumn q_walls q_wallMany q_chosen)) (h : X8_dead_J51 fu rec30 q_deadMany q_deadSize q_deadLeast q_deadMost q_st q_refused q_ones v1 v2 = some r) : mm_Wp mX8_dead (mm_R (P_X8_dead q_textSize q_cursor q_start q_token q_number q_word q_fault q_line q_foundPains q_foundLine q_st q_before q_kept q_isKept q_text q_ones q_said q_readTable q_least q_made q_enough q_isWanted q_column q_foundColumn q_walls q_wallMany q_chosen r)) 0 0 51 [(0, .ref 0), (1, .int v1), (2, .int v2)] [] (W_X8 q_textSize q_cursor q_start q_token q_number q_word q_fault q_line q_foundPains q_foundLine q_deadMany q_deadSize q_deadLeast q_deadMost q_st q_before q_kept q_isKept q_refused q_text q_ones q_said q_readTable q_least q_made q_enough q_isWanted q_column q_foundColumn q_walls q_wallMany q_chosen) := by
  rw [X8_dead_J51] at h
  refine mm_iinc 2 dX8_dead_51 rfl ki_1 (by decide) (l' := [(2, .int (v2 + (1 : Int32))), (0, .ref 0), (1, .int v1)]) rfl (pc' := 54) rfl ?_
  refine mm_goto (tgt := 30) dX8_dead_54 (by decide) ?_
  exact mm_sub [1, 2, 0] rfl (hr30 _ _ _ _ _ h)
def X8_dead_L30 (fu : Nat)  (q_st : Nat → Int32) (q_refused : Nat → Int32) (q_ones : Nat → Int32) (v1 : Int32) : Nat → Int32 → Int32 → Int32 → Int32 → Int32 → Option (Int32 × Int32 × Int32 × Int32 × Int32 × (Nat → Int32))
  | 0, _, _, _, _, _ => none
  | n + 1, q_deadMany, q_deadSize, q_deadLeast, q_deadMost, v2 => if (60 : Int32) ≤ v2 then (X8_dead_L59 fu q_st q_refused q_ones v1 fu q_deadMany q_deadSize q_deadLeast q_deadMost (0 : Int32)) else ((f_X8_isWindow fu q_st v2).bind fun t38 => if t38 = 0 then (X8_dead_J51 fu (X8_dead_L30 fu q_st q_refused q_ones v1 n) q_deadMany q_deadSize q_deadLeast q_deadMost q_st q_refused q_ones v1 v2) else ((f_X8_tryDead fu q_deadMany q_deadSize q_deadLeast q_deadMost q_st q_ones (1 : Int32) v2 (-1 : Int32)).bind fun t48 => X8_dead_J51 fu (X8_dead_L30 fu q_st q_refused q_ones v1 n) t48.1 t48.2.1 t48.2.2.1 t48.2.2.2 q_st q_refused q_ones v1 v2))
set_option maxHeartbeats 4000000 in
set_option maxRecDepth 100000 in
theorem s_X8_dead_L30 {fu : Nat} {q_textSize : Int32} {q_cursor : Int32} {q_start : Int32} {q_token : Int32} {q_number : Int32} {q_word : Int64} {q_fault : Int32} {q_line : Int32} {q_foundPains : Int32} {q_foundLine : Int32} {q_st : Nat → Int32} {q_before : Nat → Int32} {q_kept : Nat → Int32} {q_isKept : Nat → Int32} {q_refused : Nat → Int32} {q_text : Nat → Int32} {q_ones : Nat → Int32} {q_said : Nat → Int32} {q_readTable : Nat → Int32} {q_least : Nat → Int32} {q_made : Nat → Int32} {q_enough : Nat → Int32} {q_isWanted : Nat → Int32} {q_column : Nat → Int32} {q_foundColumn : Nat → Int32} {q_walls : Nat → Int64} {q_wallMany : Nat → Int32} {q_chosen : Nat → Int32} {r : Int32 × Int32 × Int32 × Int32 × Int32 × (Nat → Int32)} {v1 : Int32} : ∀ (n : Nat) (q_deadMany : Int32) (q_deadSize : Int32) (q_deadLeast : Int32) (q_deadMost : Int32) (v2 : Int32), X8_dead_L30 fu q_st q_refused q_ones v1 n q_deadMany q_deadSize q_deadLeast q_deadMost v2 = some r → mm_Wp mX8_dead (mm_R (P_X8_dead q_textSize q_cursor q_start q_token q_number q_word q_fault q_line q_foundPains q_foundLine q_st q_before q_kept q_isKept q_text q_ones q_said q_readTable q_least q_made q_enough q_isWanted q_column q_foundColumn q_walls q_wallMany q_chosen r)) 0 0 30 [(0, .ref 0), (1, .int v1), (2, .int v2)] [] (W_X8 q_textSize q_cursor q_start q_token q_number q_word q_fault q_line q_foundPains q_foundLine q_deadMany q_deadSize q_deadLeast q_deadMost q_st q_before q_kept q_isKept q_refused q_text q_ones q_said q_readTable q_least q_made q_enough q_isWanted q_column q_foundColumn q_walls q_wallMany q_chosen) := by
  intro n
  induction n with
  | zero =>
    intro q_deadMany q_deadSize q_deadLeast q_deadMost v2 h
    rw [X8_dead_L30] at h
    cases h
  | succ n hr30 =>
    intro q_deadMany q_deadSize q_deadLeast q_deadMost v2 h
    rw [X8_dead_L30] at h
    refine mm_iload_n 2 dX8_dead_30 rfl rfl (pc' := 31) rfl ?_
    refine mm_bipush dX8_dead_31 kb_60 (pc' := 33) rfl ?_
    refine mm_icmp_ge (tgt := 57) dX8_dead_33 (by decide) (pc' := 36) rfl (fun c => ?_) (fun c => ?_)
    · replace h := mm_it h c
      clear c
      refine mm_iconst dX8_dead_57 ki_0 (pc' := 58) rfl ?_
      refine mm_istore_n dX8_dead_58 rfl (by decide) (l' := [(2, .int (0 : Int32)), (0, .ref 0), (1, .int v1)]) rfl (pc' := 59) rfl ?_
      exact mm_sub [1, 2, 0] rfl (s_X8_dead_L59  _ _ _ _ _ _ h)
    · replace h := mm_if h c
      clear c
      refine mm_aload_n 0 dX8_dead_36 rfl rfl (pc' := 37) rfl ?_
      refine mm_iload_n 2 dX8_dead_37 rfl rfl (pc' := 38) rfl ?_
      obtain ⟨t38, h38, h⟩ := mm_bd h
      refine mm_call0 (As := [.int v2]) (rest := []) cV_X8_78 (ok_X8_isWindow h38) ⟨rfl, rfl, Nat.le_of_ble_eq_true rfl, Nat.le_of_ble_eq_true rfl⟩ dX8_dead_38 rfl rfl rfl rfl (by rintro _ _ ⟨-, rfl⟩; rfl) (Nat.le_of_ble_eq_true rfl) ⟨Nat.le_of_ble_eq_true rfl, Nat.le_of_ble_eq_true rfl⟩ (pc' := 41) rfl ?_
      rintro rv w ⟨rfl, rfl⟩
      show mm_Wp _ _ _ _ 41 [(0, .ref 0), (1, .int v1), (2, .int v2)] [.int t38] (W_X8 q_textSize q_cursor q_start q_token q_number q_word q_fault q_line q_foundPains q_foundLine q_deadMany q_deadSize q_deadLeast q_deadMost q_st q_before q_kept q_isKept q_refused q_text q_ones q_said q_readTable q_least q_made q_enough q_isWanted q_column q_foundColumn q_walls q_wallMany q_chosen)
      clear h38
      refine mm_if_eq (tgt := 51) dX8_dead_41 (by decide) (pc' := 44) rfl (fun c => ?_) (fun c => ?_)
      · replace h := mm_it h c
        clear c
        exact s_X8_dead_J51 (hr30 := hr30) h
      · replace h := mm_if h c
        clear c
        refine mm_aload_n 0 dX8_dead_44 rfl rfl (pc' := 45) rfl ?_
        refine mm_iconst dX8_dead_45 ki_1 (pc' := 46) rfl ?_
        refine mm_iload_n 2 dX8_dead_46 rfl rfl (pc' := 47) rfl ?_
        refine mm_iconst dX8_dead_47 ki_m1 (pc' := 48) rfl ?_
        obtain ⟨t48, h48, h⟩ := mm_bd h
        refine mm_call0 (As := [.int (1 : Int32), .int v2, .int (-1 : Int32)]) (rest := []) cV_X8_283 (ok_X8_tryDead h48) ⟨rfl, rfl, Nat.le_of_ble_eq_true rfl, Nat.le_of_ble_eq_true rfl⟩ dX8_dead_48 rfl rfl rfl rfl (by rintro _ _ ⟨-, rfl⟩; rfl) (Nat.le_of_ble_eq_true rfl) ⟨Nat.le_of_ble_eq_true rfl, Nat.le_of_ble_eq_true rfl⟩ (pc' := 51) rfl ?_
        rintro rv w ⟨rfl, rfl⟩
        show mm_Wp _ _ _ _ 51 [(0, .ref 0), (1, .int v1), (2, .int v2)] [] (W_X8 q_textSize q_cursor q_start q_token q_number q_word q_fault q_line q_foundPains q_foundLine t48.1 t48.2.1 t48.2.2.1 t48.2.2.2 q_st q_before q_kept q_isKept q_refused q_text q_ones q_said q_readTable q_least q_made q_enough q_isWanted q_column q_foundColumn q_walls q_wallMany q_chosen)
        clear h48
        exact s_X8_dead_J51 (hr30 := hr30) h
def f_X8_dead (fu : Nat) (q_deadMany : Int32) (q_deadSize : Int32) (q_deadLeast : Int32) (q_deadMost : Int32) (q_st : Nat → Int32) (q_refused : Nat → Int32) (q_ones : Nat → Int32) (v1 : Int32) : Option (Int32 × Int32 × Int32 × Int32 × Int32 × (Nat → Int32)) := (f_X8_in fu v1 (0 : Int32) (3 : Int32)).bind fun t3 => if t3 = 0 then ((f_X8_told fu q_refused (-2 : Int32)).bind fun t12 => some (t12.1, q_deadMany, q_deadSize, q_deadLeast, q_deadMost, t12.2)) else ((f_X8_tryDead fu (0 : Int32) q_deadSize q_deadLeast q_deadMost q_st q_ones (0 : Int32) (-1 : Int32) (-1 : Int32)).bind fun t25 => X8_dead_L30 fu q_st q_refused q_ones v1 fu t25.1 t25.2.1 t25.2.2.1 t25.2.2.2 (0 : Int32))
set_option maxHeartbeats 4000000 in
set_option maxRecDepth 100000 in
theorem ok_X8_dead {fu : Nat} {q_textSize : Int32} {q_cursor : Int32} {q_start : Int32} {q_token : Int32} {q_number : Int32} {q_word : Int64} {q_fault : Int32} {q_line : Int32} {q_foundPains : Int32} {q_foundLine : Int32} {q_deadMany : Int32} {q_deadSize : Int32} {q_deadLeast : Int32} {q_deadMost : Int32} {q_st : Nat → Int32} {q_before : Nat → Int32} {q_kept : Nat → Int32} {q_isKept : Nat → Int32} {q_refused : Nat → Int32} {q_text : Nat → Int32} {q_ones : Nat → Int32} {q_said : Nat → Int32} {q_readTable : Nat → Int32} {q_least : Nat → Int32} {q_made : Nat → Int32} {q_enough : Nat → Int32} {q_isWanted : Nat → Int32} {q_column : Nat → Int32} {q_foundColumn : Nat → Int32} {q_walls : Nat → Int64} {q_wallMany : Nat → Int32} {q_chosen : Nat → Int32} {r : Int32 × Int32 × Int32 × Int32 × Int32 × (Nat → Int32)} {v1 : Int32} (h : f_X8_dead fu q_deadMany q_deadSize q_deadLeast q_deadMost q_st q_refused q_ones v1 = some r) : mm_Ok mX8_dead [.ref 0, .int v1] (W_X8 q_textSize q_cursor q_start q_token q_number q_word q_fault q_line q_foundPains q_foundLine q_deadMany q_deadSize q_deadLeast q_deadMost q_st q_before q_kept q_isKept q_refused q_text q_ones q_said q_readTable q_least q_made q_enough q_isWanted q_column q_foundColumn q_walls q_wallMany q_chosen) (P_X8_dead q_textSize q_cursor q_start q_token q_number q_word q_fault q_line q_foundPains q_foundLine q_st q_before q_kept q_isKept q_text q_ones q_said q_readTable q_least q_made q_enough q_isWanted q_column q_foundColumn q_walls q_wallMany q_chosen r) := by
  rw [f_X8_dead] at h
  refine mm_Ok.of pn_X8 (l := [(0, .ref 0), (1, .int v1)]) rfl (Nat.le_of_ble_eq_true rfl) ?_
  refine mm_iload_n 1 dX8_dead_0 rfl rfl (pc' := 1) rfl ?_
  refine mm_iconst dX8_dead_1 ki_0 (pc' := 2) rfl ?_
  refine mm_iconst dX8_dead_2 ki_3 (pc' := 3) rfl ?_
  obtain ⟨t3, h3, h⟩ := mm_bd h
  refine mm_callS (As := [.int v1, .int (0 : Int32), .int (3 : Int32)]) (rest := []) (av := [.int v1, .int (0 : Int32), .int (3 : Int32)]) (wc := []) (is := []) cS_X8_70 (ok_X8_in h3) ⟨rfl, rfl, Nat.le_of_ble_eq_true rfl, Nat.le_of_ble_eq_true rfl⟩ dX8_dead_3 rfl rfl rfl ⟨rfl, by decide, by decide⟩ (by rintro _ _ ⟨-, rfl⟩; rfl) (Nat.le_of_ble_eq_true rfl) ⟨Nat.le_of_ble_eq_true rfl, Nat.le_of_ble_eq_true rfl⟩ (pc' := 6) rfl ?_
  rintro rv w ⟨rfl, rfl⟩
  show mm_Wp _ _ _ _ 6 [(0, .ref 0), (1, .int v1)] [.int t3] (W_X8 q_textSize q_cursor q_start q_token q_number q_word q_fault q_line q_foundPains q_foundLine q_deadMany q_deadSize q_deadLeast q_deadMost q_st q_before q_kept q_isKept q_refused q_text q_ones q_said q_readTable q_least q_made q_enough q_isWanted q_column q_foundColumn q_walls q_wallMany q_chosen)
  clear h3
  refine mm_if_ne (tgt := 16) dX8_dead_6 (by decide) (pc' := 9) rfl (fun c => ?_) (fun c => ?_)
  · replace h := mm_if h c
    clear c
    refine mm_aload_n 0 dX8_dead_16 rfl rfl (pc' := 17) rfl ?_
    refine mm_iconst dX8_dead_17 ki_0 (pc' := 18) rfl ?_
    refine mm_putf fP_X8_271 dX8_dead_18 rfl (Nat.le_of_ble_eq_true rfl) (fun _ => rfl) (fun _ => rfl) (ws' := (W_X8 q_textSize q_cursor q_start q_token q_number q_word q_fault q_line q_foundPains q_foundLine (0 : Int32) q_deadSize q_deadLeast q_deadMost q_st q_before q_kept q_isKept q_refused q_text q_ones q_said q_readTable q_least q_made q_enough q_isWanted q_column q_foundColumn q_walls q_wallMany q_chosen)) rfl (pc' := 21) rfl ?_
    refine mm_aload_n 0 dX8_dead_21 rfl rfl (pc' := 22) rfl ?_
    refine mm_iconst dX8_dead_22 ki_0 (pc' := 23) rfl ?_
    refine mm_iconst dX8_dead_23 ki_m1 (pc' := 24) rfl ?_
    refine mm_iconst dX8_dead_24 ki_m1 (pc' := 25) rfl ?_
    obtain ⟨t25, h25, h⟩ := mm_bd h
    refine mm_call0 (As := [.int (0 : Int32), .int (-1 : Int32), .int (-1 : Int32)]) (rest := []) cV_X8_283 (ok_X8_tryDead h25) ⟨rfl, rfl, Nat.le_of_ble_eq_true rfl, Nat.le_of_ble_eq_true rfl⟩ dX8_dead_25 rfl rfl rfl rfl (by rintro _ _ ⟨-, rfl⟩; rfl) (Nat.le_of_ble_eq_true rfl) ⟨Nat.le_of_ble_eq_true rfl, Nat.le_of_ble_eq_true rfl⟩ (pc' := 28) rfl ?_
    rintro rv w ⟨rfl, rfl⟩
    show mm_Wp _ _ _ _ 28 [(0, .ref 0), (1, .int v1)] [] (W_X8 q_textSize q_cursor q_start q_token q_number q_word q_fault q_line q_foundPains q_foundLine t25.1 t25.2.1 t25.2.2.1 t25.2.2.2 q_st q_before q_kept q_isKept q_refused q_text q_ones q_said q_readTable q_least q_made q_enough q_isWanted q_column q_foundColumn q_walls q_wallMany q_chosen)
    clear h25
    refine mm_iconst dX8_dead_28 ki_0 (pc' := 29) rfl ?_
    refine mm_istore_n dX8_dead_29 rfl (by decide) (l' := [(2, .int (0 : Int32)), (0, .ref 0), (1, .int v1)]) rfl (pc' := 30) rfl ?_
    exact mm_sub [1, 2, 0] rfl (s_X8_dead_L30  _ _ _ _ _ _ h)
  · replace h := mm_it h c
    clear c
    refine mm_aload_n 0 dX8_dead_9 rfl rfl (pc' := 10) rfl ?_
    refine mm_bipush dX8_dead_10 kb_m2 (pc' := 12) rfl ?_
    obtain ⟨t12, h12, h⟩ := mm_bd h
    refine mm_call0 (As := [.int (-2 : Int32)]) (rest := []) cV_X8_92 (ok_X8_told h12) ⟨rfl, rfl, Nat.le_of_ble_eq_true rfl, Nat.le_of_ble_eq_true rfl⟩ dX8_dead_12 rfl rfl rfl rfl (by rintro _ _ ⟨-, rfl⟩; rfl) (Nat.le_of_ble_eq_true rfl) ⟨Nat.le_of_ble_eq_true rfl, Nat.le_of_ble_eq_true rfl⟩ (pc' := 15) rfl ?_
    rintro rv w ⟨rfl, rfl⟩
    show mm_Wp _ _ _ _ 15 [(0, .ref 0), (1, .int v1)] [.int t12.1] (W_X8 q_textSize q_cursor q_start q_token q_number q_word q_fault q_line q_foundPains q_foundLine q_deadMany q_deadSize q_deadLeast q_deadMost q_st q_before q_kept q_isKept t12.2 q_text q_ones q_said q_readTable q_least q_made q_enough q_isWanted q_column q_foundColumn q_walls q_wallMany q_chosen)
    clear h12
    have h9 := Option.some.inj h
    subst h9
    exact mm_iret rfl dX8_dead_15 ⟨rfl, rfl⟩

def P_X8_isUnlike (q_textSize : Int32) (q_cursor : Int32) (q_start : Int32) (q_token : Int32) (q_number : Int32) (q_word : Int64) (q_fault : Int32) (q_line : Int32) (q_foundPains : Int32) (q_foundLine : Int32) (q_deadMany : Int32) (q_deadSize : Int32) (q_deadLeast : Int32) (q_deadMost : Int32) (q_st : Nat → Int32) (q_before : Nat → Int32) (q_kept : Nat → Int32) (q_isKept : Nat → Int32) (q_refused : Nat → Int32) (q_text : Nat → Int32) (q_ones : Nat → Int32) (q_said : Nat → Int32) (q_readTable : Nat → Int32) (q_least : Nat → Int32) (q_made : Nat → Int32) (q_enough : Nat → Int32) (q_isWanted : Nat → Int32) (q_column : Nat → Int32) (q_foundColumn : Nat → Int32) (q_walls : Nat → Int64) (q_wallMany : Nat → Int32) (q_chosen : Nat → Int32) (r : Int32) : Option Value → mm_W → Prop := fun rv w => rv = some (.int r) ∧ w = (W_X8 q_textSize q_cursor q_start q_token q_number q_word q_fault q_line q_foundPains q_foundLine q_deadMany q_deadSize q_deadLeast q_deadMost q_st q_before q_kept q_isKept q_refused q_text q_ones q_said q_readTable q_least q_made q_enough q_isWanted q_column q_foundColumn q_walls q_wallMany q_chosen)
def X8_isUnlike_J40 (fu : Nat) (rec6 : Int32 → Int32 → Option (Int32)) (q_ones : Nat → Int32) (q_chosen : Nat → Int32) (v1 : Int32) (v2 : Int32) (v3 : Int32) (v5 : Int32) (s0 : Int32) : Option (Int32) := rec6 s0 (v5 + (1 : Int32))
set_option maxHeartbeats 4000000 in
set_option maxRecDepth 100000 in
theorem s_X8_isUnlike_J40 {fu : Nat} {q_textSize : Int32} {q_cursor : Int32} {q_start : Int32} {q_token : Int32} {q_number : Int32} {q_word : Int64} {q_fault : Int32} {q_line : Int32} {q_foundPains : Int32} {q_foundLine : Int32} {q_deadMany : Int32} {q_deadSize : Int32} {q_deadLeast : Int32} {q_deadMost : Int32} {q_st : Nat → Int32} {q_before : Nat → Int32} {q_kept : Nat → Int32} {q_isKept : Nat → Int32} {q_refused : Nat → Int32} {q_text : Nat → Int32} {q_ones : Nat → Int32} {q_said : Nat → Int32} {q_readTable : Nat → Int32} {q_least : Nat → Int32} {q_made : Nat → Int32} {q_enough : Nat → Int32} {q_isWanted : Nat → Int32} {q_column : Nat → Int32} {q_foundColumn : Nat → Int32} {q_walls : Nat → Int64} {q_wallMany : Nat → Int32} {q_chosen : Nat → Int32} {r : Int32} {rec6 : Int32 → Int32 → Option (Int32)} {v1 : Int32} {v2 : Int32} {v3 : Int32} {v5 : Int32} {s0 : Int32} (hr6 : ∀ (y4 : Int32) (y5 : Int32), rec6 y4 y5 = some r → mm_Wp mX8_isUnlike (mm_R (P_X8_isUnlike q_textSize q_cursor q_start q_token q_number q_word q_fault q_line q_foundPains q_foundLine q_deadMany q_deadSize q_deadLeast q_deadMost q_st q_before q_kept q_isKept q_refused q_text q_ones q_said q_readTable q_least q_made q_enough q_isWanted q_column q_foundColumn q_walls q_wallMany q_chosen r)) 0 0 6 [(0, .ref 0), (1, .int v1), (2, .int v2), (3, .int v3), (4, .int y4), (5, .int y5)] [] (W_X8 q_textSize q_cursor q_start q_token q_number q_word q_fault q_line q_foundPains q_foundLine q_deadMany q_deadSize q_deadLeast q_deadMost q_st q_before q_kept q_isKept q_refused q_text q_ones q_said q_readTable q_least q_made q_enough q_isWanted q_column q_foundColumn q_walls q_wallMany q_chosen)) (h : X8_isUnlike_J40 fu rec6 q_ones q_chosen v1 v2 v3 v5 s0 = some r) : mm_Wp mX8_isUnlike (mm_R (P_X8_isUnlike q_textSize q_cursor q_start q_token q_number q_word q_fault q_line q_foundPains q_foundLine q_deadMany q_deadSize q_deadLeast q_deadMost q_st q_before q_kept q_isKept q_refused q_text q_ones q_said q_readTable q_least q_made q_enough q_isWanted q_column q_foundColumn q_walls q_wallMany q_chosen r)) 0 0 40 [(0, .ref 0), (1, .int v1), (2, .int v2), (3, .int v3), (5, .int v5)] [.int s0] (W_X8 q_textSize q_cursor q_start q_token q_number q_word q_fault q_line q_foundPains q_foundLine q_deadMany q_deadSize q_deadLeast q_deadMost q_st q_before q_kept q_isKept q_refused q_text q_ones q_said q_readTable q_least q_made q_enough q_isWanted q_column q_foundColumn q_walls q_wallMany q_chosen) := by
  rw [X8_isUnlike_J40] at h
  refine mm_istore dX8_isUnlike_40 (by decide) (l' := [(4, .int s0), (0, .ref 0), (1, .int v1), (2, .int v2), (3, .int v3), (5, .int v5)]) rfl (pc' := 42) rfl ?_
  refine mm_iinc 5 dX8_isUnlike_42 rfl ki_1 (by decide) (l' := [(5, .int (v5 + (1 : Int32))), (4, .int s0), (0, .ref 0), (1, .int v1), (2, .int v2), (3, .int v3)]) rfl (pc' := 45) rfl ?_
  refine mm_goto (tgt := 6) dX8_isUnlike_45 (by decide) ?_
  exact mm_sub [2, 3, 4, 5, 1, 0] rfl (hr6 _ _ h)
def X8_isUnlike_J39 (fu : Nat) (rec6 : Int32 → Int32 → Option (Int32)) (q_ones : Nat → Int32) (q_chosen : Nat → Int32) (v1 : Int32) (v2 : Int32) (v3 : Int32) (v5 : Int32)  : Option (Int32) := X8_isUnlike_J40 fu rec6 q_ones q_chosen v1 v2 v3 v5 (0 : Int32)
set_option maxHeartbeats 4000000 in
set_option maxRecDepth 100000 in
theorem s_X8_isUnlike_J39 {fu : Nat} {q_textSize : Int32} {q_cursor : Int32} {q_start : Int32} {q_token : Int32} {q_number : Int32} {q_word : Int64} {q_fault : Int32} {q_line : Int32} {q_foundPains : Int32} {q_foundLine : Int32} {q_deadMany : Int32} {q_deadSize : Int32} {q_deadLeast : Int32} {q_deadMost : Int32} {q_st : Nat → Int32} {q_before : Nat → Int32} {q_kept : Nat → Int32} {q_isKept : Nat → Int32} {q_refused : Nat → Int32} {q_text : Nat → Int32} {q_ones : Nat → Int32} {q_said : Nat → Int32} {q_readTable : Nat → Int32} {q_least : Nat → Int32} {q_made : Nat → Int32} {q_enough : Nat → Int32} {q_isWanted : Nat → Int32} {q_column : Nat → Int32} {q_foundColumn : Nat → Int32} {q_walls : Nat → Int64} {q_wallMany : Nat → Int32} {q_chosen : Nat → Int32} {r : Int32} {rec6 : Int32 → Int32 → Option (Int32)} {v1 : Int32} {v2 : Int32} {v3 : Int32} {v5 : Int32} (hr6 : ∀ (y4 : Int32) (y5 : Int32), rec6 y4 y5 = some r → mm_Wp mX8_isUnlike (mm_R (P_X8_isUnlike q_textSize q_cursor q_start q_token q_number q_word q_fault q_line q_foundPains q_foundLine q_deadMany q_deadSize q_deadLeast q_deadMost q_st q_before q_kept q_isKept q_refused q_text q_ones q_said q_readTable q_least q_made q_enough q_isWanted q_column q_foundColumn q_walls q_wallMany q_chosen r)) 0 0 6 [(0, .ref 0), (1, .int v1), (2, .int v2), (3, .int v3), (4, .int y4), (5, .int y5)] [] (W_X8 q_textSize q_cursor q_start q_token q_number q_word q_fault q_line q_foundPains q_foundLine q_deadMany q_deadSize q_deadLeast q_deadMost q_st q_before q_kept q_isKept q_refused q_text q_ones q_said q_readTable q_least q_made q_enough q_isWanted q_column q_foundColumn q_walls q_wallMany q_chosen)) (h : X8_isUnlike_J39 fu rec6 q_ones q_chosen v1 v2 v3 v5 = some r) : mm_Wp mX8_isUnlike (mm_R (P_X8_isUnlike q_textSize q_cursor q_start q_token q_number q_word q_fault q_line q_foundPains q_foundLine q_deadMany q_deadSize q_deadLeast q_deadMost q_st q_before q_kept q_isKept q_refused q_text q_ones q_said q_readTable q_least q_made q_enough q_isWanted q_column q_foundColumn q_walls q_wallMany q_chosen r)) 0 0 39 [(0, .ref 0), (1, .int v1), (2, .int v2), (3, .int v3), (5, .int v5)] [] (W_X8 q_textSize q_cursor q_start q_token q_number q_word q_fault q_line q_foundPains q_foundLine q_deadMany q_deadSize q_deadLeast q_deadMost q_st q_before q_kept q_isKept q_refused q_text q_ones q_said q_readTable q_least q_made q_enough q_isWanted q_column q_foundColumn q_walls q_wallMany q_chosen) := by
  rw [X8_isUnlike_J39] at h
  refine mm_iconst dX8_isUnlike_39 ki_0 (pc' := 40) rfl ?_
  exact s_X8_isUnlike_J40 (hr6 := hr6) h
def X8_isUnlike_L6 (fu : Nat)  (q_ones : Nat → Int32) (q_chosen : Nat → Int32) (v1 : Int32) (v2 : Int32) (v3 : Int32) : Nat → Int32 → Int32 → Option (Int32)
  | 0, _, _ => none
  | n + 1, v4, v5 => if v2 ≤ v5 then (mm_gd (mm_zb v4) (some (v4))) else (if v4 = 0 then (X8_isUnlike_J39 fu (X8_isUnlike_L6 fu q_ones q_chosen v1 v2 v3 n) q_ones q_chosen v1 v2 v3 v5) else (mm_rd q_chosen 32 v5 fun x28 => mm_rd q_ones 4096 (v1 ^^^ x28) fun x30 => if x30 < v3 then (X8_isUnlike_J39 fu (X8_isUnlike_L6 fu q_ones q_chosen v1 v2 v3 n) q_ones q_chosen v1 v2 v3 v5) else (X8_isUnlike_J40 fu (X8_isUnlike_L6 fu q_ones q_chosen v1 v2 v3 n) q_ones q_chosen v1 v2 v3 v5 (1 : Int32))))
set_option maxHeartbeats 4000000 in
set_option maxRecDepth 100000 in
theorem s_X8_isUnlike_L6 {fu : Nat} {q_textSize : Int32} {q_cursor : Int32} {q_start : Int32} {q_token : Int32} {q_number : Int32} {q_word : Int64} {q_fault : Int32} {q_line : Int32} {q_foundPains : Int32} {q_foundLine : Int32} {q_deadMany : Int32} {q_deadSize : Int32} {q_deadLeast : Int32} {q_deadMost : Int32} {q_st : Nat → Int32} {q_before : Nat → Int32} {q_kept : Nat → Int32} {q_isKept : Nat → Int32} {q_refused : Nat → Int32} {q_text : Nat → Int32} {q_ones : Nat → Int32} {q_said : Nat → Int32} {q_readTable : Nat → Int32} {q_least : Nat → Int32} {q_made : Nat → Int32} {q_enough : Nat → Int32} {q_isWanted : Nat → Int32} {q_column : Nat → Int32} {q_foundColumn : Nat → Int32} {q_walls : Nat → Int64} {q_wallMany : Nat → Int32} {q_chosen : Nat → Int32} {r : Int32} {v1 : Int32} {v2 : Int32} {v3 : Int32} : ∀ (n : Nat) (v4 : Int32) (v5 : Int32), X8_isUnlike_L6 fu q_ones q_chosen v1 v2 v3 n v4 v5 = some r → mm_Wp mX8_isUnlike (mm_R (P_X8_isUnlike q_textSize q_cursor q_start q_token q_number q_word q_fault q_line q_foundPains q_foundLine q_deadMany q_deadSize q_deadLeast q_deadMost q_st q_before q_kept q_isKept q_refused q_text q_ones q_said q_readTable q_least q_made q_enough q_isWanted q_column q_foundColumn q_walls q_wallMany q_chosen r)) 0 0 6 [(0, .ref 0), (1, .int v1), (2, .int v2), (3, .int v3), (4, .int v4), (5, .int v5)] [] (W_X8 q_textSize q_cursor q_start q_token q_number q_word q_fault q_line q_foundPains q_foundLine q_deadMany q_deadSize q_deadLeast q_deadMost q_st q_before q_kept q_isKept q_refused q_text q_ones q_said q_readTable q_least q_made q_enough q_isWanted q_column q_foundColumn q_walls q_wallMany q_chosen) := by
  intro n
  induction n with
  | zero =>
    intro v4 v5 h
    rw [X8_isUnlike_L6] at h
    cases h
  | succ n hr6 =>
    intro v4 v5 h
    rw [X8_isUnlike_L6] at h
    refine mm_iload 5 dX8_isUnlike_6 rfl (pc' := 8) rfl ?_
    refine mm_iload_n 2 dX8_isUnlike_8 rfl rfl (pc' := 9) rfl ?_
    refine mm_icmp_ge (tgt := 48) dX8_isUnlike_9 (by decide) (pc' := 12) rfl (fun c => ?_) (fun c => ?_)
    · replace h := mm_it h c
      clear c
      refine mm_iload 4 dX8_isUnlike_48 rfl (pc' := 50) rfl ?_
      obtain ⟨c, h⟩ := mm_gd_of h
      have h9 := Option.some.inj h
      subst h9
      exact mm_zret rfl (mm_zb_of c) dX8_isUnlike_50 ⟨rfl, rfl⟩
    · replace h := mm_if h c
      clear c
      refine mm_iload 4 dX8_isUnlike_12 rfl (pc' := 14) rfl ?_
      refine mm_if_eq (tgt := 39) dX8_isUnlike_14 (by decide) (pc' := 17) rfl (fun c => ?_) (fun c => ?_)
      · replace h := mm_it h c
        clear c
        exact mm_sub [0, 1, 2, 3, 5] rfl (s_X8_isUnlike_J39 (hr6 := hr6) h)
      · replace h := mm_if h c
        clear c
        refine mm_aload_n 0 dX8_isUnlike_17 rfl rfl (pc' := 18) rfl ?_
        refine mm_getf fG_X8_29 dX8_isUnlike_18 rfl rfl (pc' := 21) rfl ?_
        refine mm_iload_n 1 dX8_isUnlike_21 rfl rfl (pc' := 22) rfl ?_
        refine mm_aload_n 0 dX8_isUnlike_22 rfl rfl (pc' := 23) rfl ?_
        refine mm_getf fG_X8_63 dX8_isUnlike_23 rfl rfl (pc' := 26) rfl ?_
        refine mm_iload 5 dX8_isUnlike_26 rfl (pc' := 28) rfl ?_
        obtain ⟨x28, c28, e28, h⟩ := mm_rd_of h
        refine mm_iald dX8_isUnlike_28 rfl c28 e28 (pc' := 29) rfl ?_
        clear c28 e28
        refine mm_ixor dX8_isUnlike_29 (pc' := 30) rfl ?_
        obtain ⟨x30, c30, e30, h⟩ := mm_rd_of h
        refine mm_iald dX8_isUnlike_30 rfl c30 e30 (pc' := 31) rfl ?_
        clear c30 e30
        refine mm_iload_n 3 dX8_isUnlike_31 rfl rfl (pc' := 32) rfl ?_
        refine mm_icmp_lt (tgt := 39) dX8_isUnlike_32 (by decide) (pc' := 35) rfl (fun c => ?_) (fun c => ?_)
        · replace h := mm_it h c
          clear c
          exact mm_sub [0, 1, 2, 3, 5] rfl (s_X8_isUnlike_J39 (hr6 := hr6) h)
        · replace h := mm_if h c
          clear c
          refine mm_iconst dX8_isUnlike_35 ki_1 (pc' := 36) rfl ?_
          refine mm_goto (tgt := 40) dX8_isUnlike_36 (by decide) ?_
          exact mm_sub [0, 1, 2, 3, 5] rfl (s_X8_isUnlike_J40 (hr6 := hr6) h)
def f_X8_isUnlike (fu : Nat) (q_ones : Nat → Int32) (q_chosen : Nat → Int32) (v1 : Int32) (v2 : Int32) (v3 : Int32) : Option (Int32) := X8_isUnlike_L6 fu q_ones q_chosen v1 v2 v3 fu (1 : Int32) (0 : Int32)
set_option maxHeartbeats 4000000 in
set_option maxRecDepth 100000 in
theorem ok_X8_isUnlike {fu : Nat} {q_textSize : Int32} {q_cursor : Int32} {q_start : Int32} {q_token : Int32} {q_number : Int32} {q_word : Int64} {q_fault : Int32} {q_line : Int32} {q_foundPains : Int32} {q_foundLine : Int32} {q_deadMany : Int32} {q_deadSize : Int32} {q_deadLeast : Int32} {q_deadMost : Int32} {q_st : Nat → Int32} {q_before : Nat → Int32} {q_kept : Nat → Int32} {q_isKept : Nat → Int32} {q_refused : Nat → Int32} {q_text : Nat → Int32} {q_ones : Nat → Int32} {q_said : Nat → Int32} {q_readTable : Nat → Int32} {q_least : Nat → Int32} {q_made : Nat → Int32} {q_enough : Nat → Int32} {q_isWanted : Nat → Int32} {q_column : Nat → Int32} {q_foundColumn : Nat → Int32} {q_walls : Nat → Int64} {q_wallMany : Nat → Int32} {q_chosen : Nat → Int32} {r : Int32} {v1 : Int32} {v2 : Int32} {v3 : Int32} (h : f_X8_isUnlike fu q_ones q_chosen v1 v2 v3 = some r) : mm_Ok mX8_isUnlike [.ref 0, .int v1, .int v2, .int v3] (W_X8 q_textSize q_cursor q_start q_token q_number q_word q_fault q_line q_foundPains q_foundLine q_deadMany q_deadSize q_deadLeast q_deadMost q_st q_before q_kept q_isKept q_refused q_text q_ones q_said q_readTable q_least q_made q_enough q_isWanted q_column q_foundColumn q_walls q_wallMany q_chosen) (P_X8_isUnlike q_textSize q_cursor q_start q_token q_number q_word q_fault q_line q_foundPains q_foundLine q_deadMany q_deadSize q_deadLeast q_deadMost q_st q_before q_kept q_isKept q_refused q_text q_ones q_said q_readTable q_least q_made q_enough q_isWanted q_column q_foundColumn q_walls q_wallMany q_chosen r) := by
  rw [f_X8_isUnlike] at h
  refine mm_Ok.of pn_X8 (l := [(0, .ref 0), (1, .int v1), (2, .int v2), (3, .int v3)]) rfl (Nat.le_of_ble_eq_true rfl) ?_
  refine mm_iconst dX8_isUnlike_0 ki_1 (pc' := 1) rfl ?_
  refine mm_istore dX8_isUnlike_1 (by decide) (l' := [(4, .int (1 : Int32)), (0, .ref 0), (1, .int v1), (2, .int v2), (3, .int v3)]) rfl (pc' := 3) rfl ?_
  refine mm_iconst dX8_isUnlike_3 ki_0 (pc' := 4) rfl ?_
  refine mm_istore dX8_isUnlike_4 (by decide) (l' := [(5, .int (0 : Int32)), (4, .int (1 : Int32)), (0, .ref 0), (1, .int v1), (2, .int v2), (3, .int v3)]) rfl (pc' := 6) rfl ?_
  exact mm_sub [2, 3, 4, 5, 1, 0] rfl (s_X8_isUnlike_L6  _ _ _ h)

def P_X8_unlike (q_textSize : Int32) (q_cursor : Int32) (q_start : Int32) (q_token : Int32) (q_number : Int32) (q_word : Int64) (q_fault : Int32) (q_line : Int32) (q_foundPains : Int32) (q_foundLine : Int32) (q_deadMany : Int32) (q_deadSize : Int32) (q_deadLeast : Int32) (q_deadMost : Int32) (q_st : Nat → Int32) (q_before : Nat → Int32) (q_kept : Nat → Int32) (q_isKept : Nat → Int32) (q_text : Nat → Int32) (q_ones : Nat → Int32) (q_said : Nat → Int32) (q_readTable : Nat → Int32) (q_least : Nat → Int32) (q_made : Nat → Int32) (q_enough : Nat → Int32) (q_isWanted : Nat → Int32) (q_column : Nat → Int32) (q_foundColumn : Nat → Int32) (q_walls : Nat → Int64) (q_wallMany : Nat → Int32) (r : Int32 × (Nat → Int32) × (Nat → Int32)) : Option Value → mm_W → Prop := fun rv w => rv = some (.int r.1) ∧ w = (W_X8 q_textSize q_cursor q_start q_token q_number q_word q_fault q_line q_foundPains q_foundLine q_deadMany q_deadSize q_deadLeast q_deadMost q_st q_before q_kept q_isKept r.2.1 q_text q_ones q_said q_readTable q_least q_made q_enough q_isWanted q_column q_foundColumn q_walls q_wallMany r.2.2)
def X8_unlike_J18 (fu : Nat)  (q_refused : Nat → Int32) (q_ones : Nat → Int32) (q_chosen : Nat → Int32)   : Option (Int32 × (Nat → Int32) × (Nat → Int32)) := (f_X8_told fu q_refused (-2 : Int32)).bind fun t21 => some (t21.1, t21.2, q_chosen)
set_option maxHeartbeats 4000000 in
set_option maxRecDepth 100000 in
theorem s_X8_unlike_J18 {fu : Nat} {q_textSize : Int32} {q_cursor : Int32} {q_start : Int32} {q_token : Int32} {q_number : Int32} {q_word : Int64} {q_fault : Int32} {q_line : Int32} {q_foundPains : Int32} {q_foundLine : Int32} {q_deadMany : Int32} {q_deadSize : Int32} {q_deadLeast : Int32} {q_deadMost : Int32} {q_st : Nat → Int32} {q_before : Nat → Int32} {q_kept : Nat → Int32} {q_isKept : Nat → Int32} {q_refused : Nat → Int32} {q_text : Nat → Int32} {q_ones : Nat → Int32} {q_said : Nat → Int32} {q_readTable : Nat → Int32} {q_least : Nat → Int32} {q_made : Nat → Int32} {q_enough : Nat → Int32} {q_isWanted : Nat → Int32} {q_column : Nat → Int32} {q_foundColumn : Nat → Int32} {q_walls : Nat → Int64} {q_wallMany : Nat → Int32} {q_chosen : Nat → Int32} {r : Int32 × (Nat → Int32) × (Nat → Int32)} (h : X8_unlike_J18 fu q_refused q_ones q_chosen = some r) : mm_Wp mX8_unlike (mm_R (P_X8_unlike q_textSize q_cursor q_start q_token q_number q_word q_fault q_line q_foundPains q_foundLine q_deadMany q_deadSize q_deadLeast q_deadMost q_st q_before q_kept q_isKept q_text q_ones q_said q_readTable q_least q_made q_enough q_isWanted q_column q_foundColumn q_walls q_wallMany r)) 0 0 18 [(0, .ref 0)] [] (W_X8 q_textSize q_cursor q_start q_token q_number q_word q_fault q_line q_foundPains q_foundLine q_deadMany q_deadSize q_deadLeast q_deadMost q_st q_before q_kept q_isKept q_refused q_text q_ones q_said q_readTable q_least q_made q_enough q_isWanted q_column q_foundColumn q_walls q_wallMany q_chosen) := by
  rw [X8_unlike_J18] at h
  refine mm_aload_n 0 dX8_unlike_18 rfl rfl (pc' := 19) rfl ?_
  refine mm_bipush dX8_unlike_19 kb_m2 (pc' := 21) rfl ?_
  obtain ⟨t21, h21, h⟩ := mm_bd h
  refine mm_call0 (As := [.int (-2 : Int32)]) (rest := []) cV_X8_92 (ok_X8_told h21) ⟨rfl, rfl, Nat.le_of_ble_eq_true rfl, Nat.le_of_ble_eq_true rfl⟩ dX8_unlike_21 rfl rfl rfl rfl (by rintro _ _ ⟨-, rfl⟩; rfl) (Nat.le_of_ble_eq_true rfl) ⟨Nat.le_of_ble_eq_true rfl, Nat.le_of_ble_eq_true rfl⟩ (pc' := 24) rfl ?_
  rintro rv w ⟨rfl, rfl⟩
  show mm_Wp _ _ _ _ 24 [(0, .ref 0)] [.int t21.1] (W_X8 q_textSize q_cursor q_start q_token q_number q_word q_fault q_line q_foundPains q_foundLine q_deadMany q_deadSize q_deadLeast q_deadMost q_st q_before q_kept q_isKept t21.2 q_text q_ones q_said q_readTable q_least q_made q_enough q_isWanted q_column q_foundColumn q_walls q_wallMany q_chosen)
  clear h21
  have h9 := Option.some.inj h
  subst h9
  exact mm_iret rfl dX8_unlike_24 ⟨rfl, rfl⟩
def X8_unlike_J175 (fu : Nat) (rec41 : (Nat → Int32) → Int32 → Int32 → Int32 → Int32 → Option (Int32 × (Nat → Int32) × (Nat → Int32))) (q_refused : Nat → Int32) (q_ones : Nat → Int32) (q_chosen : Nat → Int32) (v2 : Int32) (v3 : Int32) (v4 : Int32) (v5 : Int32) (v7 : Int32) (s0 : Int32) : Option (Int32 × (Nat → Int32) × (Nat → Int32)) := rec41 q_chosen v4 v5 s0 v7
set_option maxHeartbeats 4000000 in
set_option maxRecDepth 100000 in
theorem s_X8_unlike_J175 {fu : Nat} {q_textSize : Int32} {q_cursor : Int32} {q_start : Int32} {q_token : Int32} {q_number : Int32} {q_word : Int64} {q_fault : Int32} {q_line : Int32} {q_foundPains : Int32} {q_foundLine : Int32} {q_deadMany : Int32} {q_deadSize : Int32} {q_deadLeast : Int32} {q_deadMost : Int32} {q_st : Nat → Int32} {q_before : Nat → Int32} {q_kept : Nat → Int32} {q_isKept : Nat → Int32} {q_refused : Nat → Int32} {q_text : Nat → Int32} {q_ones : Nat → Int32} {q_said : Nat → Int32} {q_readTable : Nat → Int32} {q_least : Nat → Int32} {q_made : Nat → Int32} {q_enough : Nat → Int32} {q_isWanted : Nat → Int32} {q_column : Nat → Int32} {q_foundColumn : Nat → Int32} {q_walls : Nat → Int64} {q_wallMany : Nat → Int32} {q_chosen : Nat → Int32} {r : Int32 × (Nat → Int32) × (Nat → Int32)} {rec41 : (Nat → Int32) → Int32 → Int32 → Int32 → Int32 → Option (Int32 × (Nat → Int32) × (Nat → Int32))} {v2 : Int32} {v3 : Int32} {v4 : Int32} {v5 : Int32} {v7 : Int32} {s0 : Int32} (hr41 : ∀ (z_q_chosen : Nat → Int32) (y4 : Int32) (y5 : Int32) (y6 : Int32) (y7 : Int32), rec41 z_q_chosen y4 y5 y6 y7 = some r → mm_Wp mX8_unlike (mm_R (P_X8_unlike q_textSize q_cursor q_start q_token q_number q_word q_fault q_line q_foundPains q_foundLine q_deadMany q_deadSize q_deadLeast q_deadMost q_st q_before q_kept q_isKept q_text q_ones q_said q_readTable q_least q_made q_enough q_isWanted q_column q_foundColumn q_walls q_wallMany r)) 0 0 41 [(0, .ref 0), (2, .int v2), (3, .int v3), (4, .int y4), (5, .int y5), (6, .int y6), (7, .int y7)] [] (W_X8 q_textSize q_cursor q_start q_token q_number q_word q_fault q_line q_foundPains q_foundLine q_deadMany q_deadSize q_deadLeast q_deadMost q_st q_before q_kept q_isKept q_refused q_text q_ones q_said q_readTable q_least q_made q_enough q_isWanted q_column q_foundColumn q_walls q_wallMany z_q_chosen)) (h : X8_unlike_J175 fu rec41 q_refused q_ones q_chosen v2 v3 v4 v5 v7 s0 = some r) : mm_Wp mX8_unlike (mm_R (P_X8_unlike q_textSize q_cursor q_start q_token q_number q_word q_fault q_line q_foundPains q_foundLine q_deadMany q_deadSize q_deadLeast q_deadMost q_st q_before q_kept q_isKept q_text q_ones q_said q_readTable q_least q_made q_enough q_isWanted q_column q_foundColumn q_walls q_wallMany r)) 0 0 175 [(0, .ref 0), (2, .int v2), (3, .int v3), (4, .int v4), (5, .int v5), (7, .int v7)] [.int s0] (W_X8 q_textSize q_cursor q_start q_token q_number q_word q_fault q_line q_foundPains q_foundLine q_deadMany q_deadSize q_deadLeast q_deadMost q_st q_before q_kept q_isKept q_refused q_text q_ones q_said q_readTable q_least q_made q_enough q_isWanted q_column q_foundColumn q_walls q_wallMany q_chosen) := by
  rw [X8_unlike_J175] at h
  refine mm_istore dX8_unlike_175 (by decide) (l' := [(6, .int s0), (0, .ref 0), (2, .int v2), (3, .int v3), (4, .int v4), (5, .int v5), (7, .int v7)]) rfl (pc' := 177) rfl ?_
  refine mm_goto (tgt := 41) dX8_unlike_177 (by decide) ?_
  exact mm_sub [1, 2, 3, 4, 5, 0, 6] rfl (hr41 _ _ _ _ _ h)
def X8_unlike_J155 (fu : Nat) (rec41 : (Nat → Int32) → Int32 → Int32 → Int32 → Int32 → Option (Int32 × (Nat → Int32) × (Nat → Int32))) (q_refused : Nat → Int32) (q_ones : Nat → Int32) (q_chosen : Nat → Int32) (v2 : Int32) (v3 : Int32) (v4 : Int32) (v5 : Int32) (s0 : Int32) : Option (Int32 × (Nat → Int32) × (Nat → Int32)) := if s0 = 0 then (X8_unlike_J175 fu rec41 q_refused q_ones q_chosen v2 v3 v4 v5 s0 v3) else (mm_rd q_chosen 32 v4 fun x168 => X8_unlike_J175 fu rec41 q_refused q_ones q_chosen v2 v3 v4 v5 s0 (x168 + (1 : Int32)))
set_option maxHeartbeats 4000000 in
set_option maxRecDepth 100000 in
theorem s_X8_unlike_J155 {fu : Nat} {q_textSize : Int32} {q_cursor : Int32} {q_start : Int32} {q_token : Int32} {q_number : Int32} {q_word : Int64} {q_fault : Int32} {q_line : Int32} {q_foundPains : Int32} {q_foundLine : Int32} {q_deadMany : Int32} {q_deadSize : Int32} {q_deadLeast : Int32} {q_deadMost : Int32} {q_st : Nat → Int32} {q_before : Nat → Int32} {q_kept : Nat → Int32} {q_isKept : Nat → Int32} {q_refused : Nat → Int32} {q_text : Nat → Int32} {q_ones : Nat → Int32} {q_said : Nat → Int32} {q_readTable : Nat → Int32} {q_least : Nat → Int32} {q_made : Nat → Int32} {q_enough : Nat → Int32} {q_isWanted : Nat → Int32} {q_column : Nat → Int32} {q_foundColumn : Nat → Int32} {q_walls : Nat → Int64} {q_wallMany : Nat → Int32} {q_chosen : Nat → Int32} {r : Int32 × (Nat → Int32) × (Nat → Int32)} {rec41 : (Nat → Int32) → Int32 → Int32 → Int32 → Int32 → Option (Int32 × (Nat → Int32) × (Nat → Int32))} {v2 : Int32} {v3 : Int32} {v4 : Int32} {v5 : Int32} {s0 : Int32} (hr41 : ∀ (z_q_chosen : Nat → Int32) (y4 : Int32) (y5 : Int32) (y6 : Int32) (y7 : Int32), rec41 z_q_chosen y4 y5 y6 y7 = some r → mm_Wp mX8_unlike (mm_R (P_X8_unlike q_textSize q_cursor q_start q_token q_number q_word q_fault q_line q_foundPains q_foundLine q_deadMany q_deadSize q_deadLeast q_deadMost q_st q_before q_kept q_isKept q_text q_ones q_said q_readTable q_least q_made q_enough q_isWanted q_column q_foundColumn q_walls q_wallMany r)) 0 0 41 [(0, .ref 0), (2, .int v2), (3, .int v3), (4, .int y4), (5, .int y5), (6, .int y6), (7, .int y7)] [] (W_X8 q_textSize q_cursor q_start q_token q_number q_word q_fault q_line q_foundPains q_foundLine q_deadMany q_deadSize q_deadLeast q_deadMost q_st q_before q_kept q_isKept q_refused q_text q_ones q_said q_readTable q_least q_made q_enough q_isWanted q_column q_foundColumn q_walls q_wallMany z_q_chosen)) (h : X8_unlike_J155 fu rec41 q_refused q_ones q_chosen v2 v3 v4 v5 s0 = some r) : mm_Wp mX8_unlike (mm_R (P_X8_unlike q_textSize q_cursor q_start q_token q_number q_word q_fault q_line q_foundPains q_foundLine q_deadMany q_deadSize q_deadLeast q_deadMost q_st q_before q_kept q_isKept q_text q_ones q_said q_readTable q_least q_made q_enough q_isWanted q_column q_foundColumn q_walls q_wallMany r)) 0 0 155 [(0, .ref 0), (2, .int v2), (3, .int v3), (4, .int v4), (5, .int v5)] [.int s0] (W_X8 q_textSize q_cursor q_start q_token q_number q_word q_fault q_line q_foundPains q_foundLine q_deadMany q_deadSize q_deadLeast q_deadMost q_st q_before q_kept q_isKept q_refused q_text q_ones q_said q_readTable q_least q_made q_enough q_isWanted q_column q_foundColumn q_walls q_wallMany q_chosen) := by
  rw [X8_unlike_J155] at h
  refine mm_istore dX8_unlike_155 (by decide) (l' := [(7, .int s0), (0, .ref 0), (2, .int v2), (3, .int v3), (4, .int v4), (5, .int v5)]) rfl (pc' := 157) rfl ?_
  refine mm_iload 0 dX8_unlike_157 rfl (pc' := 159) rfl ?_
  refine mm_if_eq (tgt := 174) dX8_unlike_159 (by decide) (pc' := 162) rfl (fun c => ?_) (fun c => ?_)
  · replace h := mm_it h c
    clear c
    refine mm_iload_n 3 dX8_unlike_174 rfl rfl (pc' := 175) rfl ?_
    exact mm_sub [1, 2, 3, 4, 5, 0] rfl (s_X8_unlike_J175 (hr41 := hr41) h)
  · replace h := mm_if h c
    clear c
    refine mm_aload_n 1 dX8_unlike_162 rfl rfl (pc' := 163) rfl ?_
    refine mm_getf fG_X8_63 dX8_unlike_163 rfl rfl (pc' := 166) rfl ?_
    refine mm_iload 4 dX8_unlike_166 rfl (pc' := 168) rfl ?_
    obtain ⟨x168, c168, e168, h⟩ := mm_rd_of h
    refine mm_iald dX8_unlike_168 rfl c168 e168 (pc' := 169) rfl ?_
    clear c168 e168
    refine mm_iconst dX8_unlike_169 ki_1 (pc' := 170) rfl ?_
    refine mm_iadd dX8_unlike_170 (pc' := 171) rfl ?_
    refine mm_goto (tgt := 175) dX8_unlike_171 (by decide) ?_
    exact mm_sub [1, 2, 3, 4, 5, 0] rfl (s_X8_unlike_J175 (hr41 := hr41) h)
def X8_unlike_J142 (fu : Nat) (rec41 : (Nat → Int32) → Int32 → Int32 → Int32 → Int32 → Option (Int32 × (Nat → Int32) × (Nat → Int32))) (q_refused : Nat → Int32) (q_ones : Nat → Int32) (q_chosen : Nat → Int32) (v2 : Int32) (v3 : Int32) (v4 : Int32) (v5 : Int32)  : Option (Int32 × (Nat → Int32) × (Nat → Int32)) := if (v4 + (-1 : Int32)) < 0 then (X8_unlike_J155 fu rec41 q_refused q_ones q_chosen v2 v3 (v4 + (-1 : Int32)) v5 (0 : Int32)) else (X8_unlike_J155 fu rec41 q_refused q_ones q_chosen v2 v3 (v4 + (-1 : Int32)) v5 (1 : Int32))
set_option maxHeartbeats 4000000 in
set_option maxRecDepth 100000 in
theorem s_X8_unlike_J142 {fu : Nat} {q_textSize : Int32} {q_cursor : Int32} {q_start : Int32} {q_token : Int32} {q_number : Int32} {q_word : Int64} {q_fault : Int32} {q_line : Int32} {q_foundPains : Int32} {q_foundLine : Int32} {q_deadMany : Int32} {q_deadSize : Int32} {q_deadLeast : Int32} {q_deadMost : Int32} {q_st : Nat → Int32} {q_before : Nat → Int32} {q_kept : Nat → Int32} {q_isKept : Nat → Int32} {q_refused : Nat → Int32} {q_text : Nat → Int32} {q_ones : Nat → Int32} {q_said : Nat → Int32} {q_readTable : Nat → Int32} {q_least : Nat → Int32} {q_made : Nat → Int32} {q_enough : Nat → Int32} {q_isWanted : Nat → Int32} {q_column : Nat → Int32} {q_foundColumn : Nat → Int32} {q_walls : Nat → Int64} {q_wallMany : Nat → Int32} {q_chosen : Nat → Int32} {r : Int32 × (Nat → Int32) × (Nat → Int32)} {rec41 : (Nat → Int32) → Int32 → Int32 → Int32 → Int32 → Option (Int32 × (Nat → Int32) × (Nat → Int32))} {v2 : Int32} {v3 : Int32} {v4 : Int32} {v5 : Int32} (hr41 : ∀ (z_q_chosen : Nat → Int32) (y4 : Int32) (y5 : Int32) (y6 : Int32) (y7 : Int32), rec41 z_q_chosen y4 y5 y6 y7 = some r → mm_Wp mX8_unlike (mm_R (P_X8_unlike q_textSize q_cursor q_start q_token q_number q_word q_fault q_line q_foundPains q_foundLine q_deadMany q_deadSize q_deadLeast q_deadMost q_st q_before q_kept q_isKept q_text q_ones q_said q_readTable q_least q_made q_enough q_isWanted q_column q_foundColumn q_walls q_wallMany r)) 0 0 41 [(0, .ref 0), (2, .int v2), (3, .int v3), (4, .int y4), (5, .int y5), (6, .int y6), (7, .int y7)] [] (W_X8 q_textSize q_cursor q_start q_token q_number q_word q_fault q_line q_foundPains q_foundLine q_deadMany q_deadSize q_deadLeast q_deadMost q_st q_before q_kept q_isKept q_refused q_text q_ones q_said q_readTable q_least q_made q_enough q_isWanted q_column q_foundColumn q_walls q_wallMany z_q_chosen)) (h : X8_unlike_J142 fu rec41 q_refused q_ones q_chosen v2 v3 v4 v5 = some r) : mm_Wp mX8_unlike (mm_R (P_X8_unlike q_textSize q_cursor q_start q_token q_number q_word q_fault q_line q_foundPains q_foundLine q_deadMany q_deadSize q_deadLeast q_deadMost q_st q_before q_kept q_isKept q_text q_ones q_said q_readTable q_least q_made q_enough q_isWanted q_column q_foundColumn q_walls q_wallMany r)) 0 0 142 [(0, .ref 0), (2, .int v2), (3, .int v3), (4, .int v4), (5, .int v5)] [] (W_X8 q_textSize q_cursor q_start q_token q_number q_word q_fault q_line q_foundPains q_foundLine q_deadMany q_deadSize q_deadLeast q_deadMost q_st q_before q_kept q_isKept q_refused q_text q_ones q_said q_readTable q_least q_made q_enough q_isWanted q_column q_foundColumn q_walls q_wallMany q_chosen) := by
  rw [X8_unlike_J142] at h
  refine mm_iinc 3 dX8_unlike_142 rfl ki_m1 (by decide) (l' := [(4, .int (v4 + (-1 : Int32))), (0, .ref 0), (2, .int v2), (3, .int v3), (5, .int v5)]) rfl (pc' := 145) rfl ?_
  refine mm_iload 0 dX8_unlike_145 rfl (pc' := 147) rfl ?_
  refine mm_if_lt (tgt := 154) dX8_unlike_147 (by decide) (pc' := 150) rfl (fun c => ?_) (fun c => ?_)
  · replace h := mm_it h c
    clear c
    refine mm_iconst dX8_unlike_154 ki_0 (pc' := 155) rfl ?_
    exact mm_sub [1, 2, 3, 0, 4] rfl (s_X8_unlike_J155 (hr41 := hr41) h)
  · replace h := mm_if h c
    clear c
    refine mm_iconst dX8_unlike_150 ki_1 (pc' := 151) rfl ?_
    refine mm_goto (tgt := 155) dX8_unlike_151 (by decide) ?_
    exact mm_sub [1, 2, 3, 0, 4] rfl (s_X8_unlike_J155 (hr41 := hr41) h)
def X8_unlike_J137 (fu : Nat) (rec41 : (Nat → Int32) → Int32 → Int32 → Int32 → Int32 → Option (Int32 × (Nat → Int32) × (Nat → Int32))) (q_refused : Nat → Int32) (q_ones : Nat → Int32) (q_chosen : Nat → Int32) (v2 : Int32) (v3 : Int32) (v4 : Int32) (v6 : Int32) (v7 : Int32) (s0 : Int32) : Option (Int32 × (Nat → Int32) × (Nat → Int32)) := rec41 q_chosen v4 s0 v6 v7
set_option maxHeartbeats 4000000 in
set_option maxRecDepth 100000 in
theorem s_X8_unlike_J137 {fu : Nat} {q_textSize : Int32} {q_cursor : Int32} {q_start : Int32} {q_token : Int32} {q_number : Int32} {q_word : Int64} {q_fault : Int32} {q_line : Int32} {q_foundPains : Int32} {q_foundLine : Int32} {q_deadMany : Int32} {q_deadSize : Int32} {q_deadLeast : Int32} {q_deadMost : Int32} {q_st : Nat → Int32} {q_before : Nat → Int32} {q_kept : Nat → Int32} {q_isKept : Nat → Int32} {q_refused : Nat → Int32} {q_text : Nat → Int32} {q_ones : Nat → Int32} {q_said : Nat → Int32} {q_readTable : Nat → Int32} {q_least : Nat → Int32} {q_made : Nat → Int32} {q_enough : Nat → Int32} {q_isWanted : Nat → Int32} {q_column : Nat → Int32} {q_foundColumn : Nat → Int32} {q_walls : Nat → Int64} {q_wallMany : Nat → Int32} {q_chosen : Nat → Int32} {r : Int32 × (Nat → Int32) × (Nat → Int32)} {rec41 : (Nat → Int32) → Int32 → Int32 → Int32 → Int32 → Option (Int32 × (Nat → Int32) × (Nat → Int32))} {v2 : Int32} {v3 : Int32} {v4 : Int32} {v6 : Int32} {v7 : Int32} {s0 : Int32} (hr41 : ∀ (z_q_chosen : Nat → Int32) (y4 : Int32) (y5 : Int32) (y6 : Int32) (y7 : Int32), rec41 z_q_chosen y4 y5 y6 y7 = some r → mm_Wp mX8_unlike (mm_R (P_X8_unlike q_textSize q_cursor q_start q_token q_number q_word q_fault q_line q_foundPains q_foundLine q_deadMany q_deadSize q_deadLeast q_deadMost q_st q_before q_kept q_isKept q_text q_ones q_said q_readTable q_least q_made q_enough q_isWanted q_column q_foundColumn q_walls q_wallMany r)) 0 0 41 [(0, .ref 0), (2, .int v2), (3, .int v3), (4, .int y4), (5, .int y5), (6, .int y6), (7, .int y7)] [] (W_X8 q_textSize q_cursor q_start q_token q_number q_word q_fault q_line q_foundPains q_foundLine q_deadMany q_deadSize q_deadLeast q_deadMost q_st q_before q_kept q_isKept q_refused q_text q_ones q_said q_readTable q_least q_made q_enough q_isWanted q_column q_foundColumn q_walls q_wallMany z_q_chosen)) (h : X8_unlike_J137 fu rec41 q_refused q_ones q_chosen v2 v3 v4 v6 v7 s0 = some r) : mm_Wp mX8_unlike (mm_R (P_X8_unlike q_textSize q_cursor q_start q_token q_number q_word q_fault q_line q_foundPains q_foundLine q_deadMany q_deadSize q_deadLeast q_deadMost q_st q_before q_kept q_isKept q_text q_ones q_said q_readTable q_least q_made q_enough q_isWanted q_column q_foundColumn q_walls q_wallMany r)) 0 0 137 [(0, .ref 0), (2, .int v2), (3, .int v3), (4, .int v4), (6, .int v6), (7, .int v7)] [.int s0] (W_X8 q_textSize q_cursor q_start q_token q_number q_word q_fault q_line q_foundPains q_foundLine q_deadMany q_deadSize q_deadLeast q_deadMost q_st q_before q_kept q_isKept q_refused q_text q_ones q_said q_readTable q_least q_made q_enough q_isWanted q_column q_foundColumn q_walls q_wallMany q_chosen) := by
  rw [X8_unlike_J137] at h
  refine mm_istore dX8_unlike_137 (by decide) (l' := [(5, .int s0), (0, .ref 0), (2, .int v2), (3, .int v3), (4, .int v4), (6, .int v6), (7, .int v7)]) rfl (pc' := 139) rfl ?_
  refine mm_goto (tgt := 177) dX8_unlike_139 (by decide) ?_
  refine mm_goto (tgt := 41) dX8_unlike_177 (by decide) ?_
  exact mm_sub [1, 2, 3, 4, 0, 5, 6] rfl (hr41 _ _ _ _ _ h)
def X8_unlike_J90 (fu : Nat) (rec41 : (Nat → Int32) → Int32 → Int32 → Int32 → Int32 → Option (Int32 × (Nat → Int32) × (Nat → Int32))) (q_refused : Nat → Int32) (q_ones : Nat → Int32) (q_chosen : Nat → Int32) (v2 : Int32) (v3 : Int32) (v4 : Int32) (v5 : Int32) (v6 : Int32) (v7 : Int32) (s0 : Int32) : Option (Int32 × (Nat → Int32) × (Nat → Int32)) := if v3 ≤ v6 then (X8_unlike_J142 fu rec41 q_refused q_ones q_chosen v2 v3 v4 v5) else (if (v4 + s0) ≤ v5 then (X8_unlike_J142 fu rec41 q_refused q_ones q_chosen v2 v3 v4 v5) else (mm_ck 32 v4 (if (v4 + (1 : Int32)) ≤ v5 then (X8_unlike_J137 fu rec41 q_refused q_ones (upd q_chosen v4.toNatClampNeg v6) v2 v3 (v4 + (1 : Int32)) (v6 + (1 : Int32)) v7 v5) else (X8_unlike_J137 fu rec41 q_refused q_ones (upd q_chosen v4.toNatClampNeg v6) v2 v3 (v4 + (1 : Int32)) (v6 + (1 : Int32)) v7 (v4 + (1 : Int32))))))
set_option maxHeartbeats 4000000 in
set_option maxRecDepth 100000 in
theorem s_X8_unlike_J90 {fu : Nat} {q_textSize : Int32} {q_cursor : Int32} {q_start : Int32} {q_token : Int32} {q_number : Int32} {q_word : Int64} {q_fault : Int32} {q_line : Int32} {q_foundPains : Int32} {q_foundLine : Int32} {q_deadMany : Int32} {q_deadSize : Int32} {q_deadLeast : Int32} {q_deadMost : Int32} {q_st : Nat → Int32} {q_before : Nat → Int32} {q_kept : Nat → Int32} {q_isKept : Nat → Int32} {q_refused : Nat → Int32} {q_text : Nat → Int32} {q_ones : Nat → Int32} {q_said : Nat → Int32} {q_readTable : Nat → Int32} {q_least : Nat → Int32} {q_made : Nat → Int32} {q_enough : Nat → Int32} {q_isWanted : Nat → Int32} {q_column : Nat → Int32} {q_foundColumn : Nat → Int32} {q_walls : Nat → Int64} {q_wallMany : Nat → Int32} {q_chosen : Nat → Int32} {r : Int32 × (Nat → Int32) × (Nat → Int32)} {rec41 : (Nat → Int32) → Int32 → Int32 → Int32 → Int32 → Option (Int32 × (Nat → Int32) × (Nat → Int32))} {v2 : Int32} {v3 : Int32} {v4 : Int32} {v5 : Int32} {v6 : Int32} {v7 : Int32} {s0 : Int32} (hr41 : ∀ (z_q_chosen : Nat → Int32) (y4 : Int32) (y5 : Int32) (y6 : Int32) (y7 : Int32), rec41 z_q_chosen y4 y5 y6 y7 = some r → mm_Wp mX8_unlike (mm_R (P_X8_unlike q_textSize q_cursor q_start q_token q_number q_word q_fault q_line q_foundPains q_foundLine q_deadMany q_deadSize q_deadLeast q_deadMost q_st q_before q_kept q_isKept q_text q_ones q_said q_readTable q_least q_made q_enough q_isWanted q_column q_foundColumn q_walls q_wallMany r)) 0 0 41 [(0, .ref 0), (2, .int v2), (3, .int v3), (4, .int y4), (5, .int y5), (6, .int y6), (7, .int y7)] [] (W_X8 q_textSize q_cursor q_start q_token q_number q_word q_fault q_line q_foundPains q_foundLine q_deadMany q_deadSize q_deadLeast q_deadMost q_st q_before q_kept q_isKept q_refused q_text q_ones q_said q_readTable q_least q_made q_enough q_isWanted q_column q_foundColumn q_walls q_wallMany z_q_chosen)) (h : X8_unlike_J90 fu rec41 q_refused q_ones q_chosen v2 v3 v4 v5 v6 v7 s0 = some r) : mm_Wp mX8_unlike (mm_R (P_X8_unlike q_textSize q_cursor q_start q_token q_number q_word q_fault q_line q_foundPains q_foundLine q_deadMany q_deadSize q_deadLeast q_deadMost q_st q_before q_kept q_isKept q_text q_ones q_said q_readTable q_least q_made q_enough q_isWanted q_column q_foundColumn q_walls q_wallMany r)) 0 0 90 [(0, .ref 0), (2, .int v2), (3, .int v3), (4, .int v4), (5, .int v5), (6, .int v6), (7, .int v7)] [.int s0] (W_X8 q_textSize q_cursor q_start q_token q_number q_word q_fault q_line q_foundPains q_foundLine q_deadMany q_deadSize q_deadLeast q_deadMost q_st q_before q_kept q_isKept q_refused q_text q_ones q_said q_readTable q_least q_made q_enough q_isWanted q_column q_foundColumn q_walls q_wallMany q_chosen) := by
  rw [X8_unlike_J90] at h
  refine mm_istore dX8_unlike_90 (by decide) (l' := [(8, .int s0), (0, .ref 0), (2, .int v2), (3, .int v3), (4, .int v4), (5, .int v5), (6, .int v6), (7, .int v7)]) rfl (pc' := 92) rfl ?_
  refine mm_iload 6 dX8_unlike_92 rfl (pc' := 94) rfl ?_
  refine mm_iload_n 3 dX8_unlike_94 rfl rfl (pc' := 95) rfl ?_
  refine mm_icmp_ge (tgt := 142) dX8_unlike_95 (by decide) (pc' := 98) rfl (fun c => ?_) (fun c => ?_)
  · replace h := mm_it h c
    clear c
    exact mm_sub [1, 2, 3, 4, 5] rfl (s_X8_unlike_J142 (hr41 := hr41) h)
  · replace h := mm_if h c
    clear c
    refine mm_iload 4 dX8_unlike_98 rfl (pc' := 100) rfl ?_
    refine mm_iload 0 dX8_unlike_100 rfl (pc' := 102) rfl ?_
    refine mm_iadd dX8_unlike_102 (pc' := 103) rfl ?_
    refine mm_iload 5 dX8_unlike_103 rfl (pc' := 105) rfl ?_
    refine mm_icmp_le (tgt := 142) dX8_unlike_105 (by decide) (pc' := 108) rfl (fun c => ?_) (fun c => ?_)
    · replace h := mm_it h c
      clear c
      exact mm_sub [1, 2, 3, 4, 5] rfl (s_X8_unlike_J142 (hr41 := hr41) h)
    · replace h := mm_if h c
      clear c
      refine mm_aload_n 1 dX8_unlike_108 rfl rfl (pc' := 109) rfl ?_
      refine mm_getf fG_X8_63 dX8_unlike_109 rfl rfl (pc' := 112) rfl ?_
      refine mm_iload 4 dX8_unlike_112 rfl (pc' := 114) rfl ?_
      refine mm_iload 6 dX8_unlike_114 rfl (pc' := 116) rfl ?_
      obtain ⟨c116, h⟩ := mm_ck_of h
      refine mm_iast dX8_unlike_116 rfl c116 rfl (ws' := (W_X8 q_textSize q_cursor q_start q_token q_number q_word q_fault q_line q_foundPains q_foundLine q_deadMany q_deadSize q_deadLeast q_deadMost q_st q_before q_kept q_isKept q_refused q_text q_ones q_said q_readTable q_least q_made q_enough q_isWanted q_column q_foundColumn q_walls q_wallMany (upd q_chosen v4.toNatClampNeg v6))) rfl (pc' := 117) rfl ?_
      clear c116
      refine mm_iinc 4 dX8_unlike_117 rfl ki_1 (by decide) (l' := [(4, .int (v4 + (1 : Int32))), (8, .int s0), (0, .ref 0), (2, .int v2), (3, .int v3), (5, .int v5), (6, .int v6), (7, .int v7)]) rfl (pc' := 120) rfl ?_
      refine mm_iinc 6 dX8_unlike_120 rfl ki_1 (by decide) (l' := [(6, .int (v6 + (1 : Int32))), (4, .int (v4 + (1 : Int32))), (8, .int s0), (0, .ref 0), (2, .int v2), (3, .int v3), (5, .int v5), (7, .int v7)]) rfl (pc' := 123) rfl ?_
      refine mm_iload 1 dX8_unlike_123 rfl (pc' := 125) rfl ?_
      refine mm_iload 6 dX8_unlike_125 rfl (pc' := 127) rfl ?_
      refine mm_icmp_le (tgt := 135) dX8_unlike_127 (by decide) (pc' := 130) rfl (fun c => ?_) (fun c => ?_)
      · replace h := mm_it h c
        clear c
        refine mm_iload 6 dX8_unlike_135 rfl (pc' := 137) rfl ?_
        exact mm_sub [3, 4, 5, 1, 0, 7] rfl (s_X8_unlike_J137 (hr41 := hr41) h)
      · replace h := mm_if h c
        clear c
        refine mm_iload 1 dX8_unlike_130 rfl (pc' := 132) rfl ?_
        refine mm_goto (tgt := 137) dX8_unlike_132 (by decide) ?_
        exact mm_sub [3, 4, 5, 1, 0, 7] rfl (s_X8_unlike_J137 (hr41 := hr41) h)
def X8_unlike_J70 (fu : Nat) (rec41 : (Nat → Int32) → Int32 → Int32 → Int32 → Int32 → Option (Int32 × (Nat → Int32) × (Nat → Int32))) (q_refused : Nat → Int32) (q_ones : Nat → Int32) (q_chosen : Nat → Int32) (v2 : Int32) (v3 : Int32) (v4 : Int32) (v5 : Int32) (v6 : Int32) (v7 : Int32)  : Option (Int32 × (Nat → Int32) × (Nat → Int32)) := if v2 ≤ (1 : Int32) then (X8_unlike_J90 fu rec41 q_refused q_ones q_chosen v2 v3 v4 v5 v6 v7 (v3 - v6)) else (X8_unlike_J90 fu rec41 q_refused q_ones q_chosen v2 v3 v4 v5 v6 v7 (((v3 - v6) + (1 : Int32)) / (2 : Int32)))
set_option maxHeartbeats 4000000 in
set_option maxRecDepth 100000 in
theorem s_X8_unlike_J70 {fu : Nat} {q_textSize : Int32} {q_cursor : Int32} {q_start : Int32} {q_token : Int32} {q_number : Int32} {q_word : Int64} {q_fault : Int32} {q_line : Int32} {q_foundPains : Int32} {q_foundLine : Int32} {q_deadMany : Int32} {q_deadSize : Int32} {q_deadLeast : Int32} {q_deadMost : Int32} {q_st : Nat → Int32} {q_before : Nat → Int32} {q_kept : Nat → Int32} {q_isKept : Nat → Int32} {q_refused : Nat → Int32} {q_text : Nat → Int32} {q_ones : Nat → Int32} {q_said : Nat → Int32} {q_readTable : Nat → Int32} {q_least : Nat → Int32} {q_made : Nat → Int32} {q_enough : Nat → Int32} {q_isWanted : Nat → Int32} {q_column : Nat → Int32} {q_foundColumn : Nat → Int32} {q_walls : Nat → Int64} {q_wallMany : Nat → Int32} {q_chosen : Nat → Int32} {r : Int32 × (Nat → Int32) × (Nat → Int32)} {rec41 : (Nat → Int32) → Int32 → Int32 → Int32 → Int32 → Option (Int32 × (Nat → Int32) × (Nat → Int32))} {v2 : Int32} {v3 : Int32} {v4 : Int32} {v5 : Int32} {v6 : Int32} {v7 : Int32} (hr41 : ∀ (z_q_chosen : Nat → Int32) (y4 : Int32) (y5 : Int32) (y6 : Int32) (y7 : Int32), rec41 z_q_chosen y4 y5 y6 y7 = some r → mm_Wp mX8_unlike (mm_R (P_X8_unlike q_textSize q_cursor q_start q_token q_number q_word q_fault q_line q_foundPains q_foundLine q_deadMany q_deadSize q_deadLeast q_deadMost q_st q_before q_kept q_isKept q_text q_ones q_said q_readTable q_least q_made q_enough q_isWanted q_column q_foundColumn q_walls q_wallMany r)) 0 0 41 [(0, .ref 0), (2, .int v2), (3, .int v3), (4, .int y4), (5, .int y5), (6, .int y6), (7, .int y7)] [] (W_X8 q_textSize q_cursor q_start q_token q_number q_word q_fault q_line q_foundPains q_foundLine q_deadMany q_deadSize q_deadLeast q_deadMost q_st q_before q_kept q_isKept q_refused q_text q_ones q_said q_readTable q_least q_made q_enough q_isWanted q_column q_foundColumn q_walls q_wallMany z_q_chosen)) (h : X8_unlike_J70 fu rec41 q_refused q_ones q_chosen v2 v3 v4 v5 v6 v7 = some r) : mm_Wp mX8_unlike (mm_R (P_X8_unlike q_textSize q_cursor q_start q_token q_number q_word q_fault q_line q_foundPains q_foundLine q_deadMany q_deadSize q_deadLeast q_deadMost q_st q_before q_kept q_isKept q_text q_ones q_said q_readTable q_least q_made q_enough q_isWanted q_column q_foundColumn q_walls q_wallMany r)) 0 0 70 [(0, .ref 0), (2, .int v2), (3, .int v3), (4, .int v4), (5, .int v5), (6, .int v6), (7, .int v7)] [] (W_X8 q_textSize q_cursor q_start q_token q_number q_word q_fault q_line q_foundPains q_foundLine q_deadMany q_deadSize q_deadLeast q_deadMost q_st q_before q_kept q_isKept q_refused q_text q_ones q_said q_readTable q_least q_made q_enough q_isWanted q_column q_foundColumn q_walls q_wallMany q_chosen) := by
  rw [X8_unlike_J70] at h
  refine mm_iload_n 1 dX8_unlike_70 rfl rfl (pc' := 71) rfl ?_
  refine mm_iconst dX8_unlike_71 ki_1 (pc' := 72) rfl ?_
  refine mm_icmp_le (tgt := 86) dX8_unlike_72 (by decide) (pc' := 75) rfl (fun c => ?_) (fun c => ?_)
  · replace h := mm_it h c
    clear c
    refine mm_iload_n 2 dX8_unlike_86 rfl rfl (pc' := 87) rfl ?_
    refine mm_iload 5 dX8_unlike_87 rfl (pc' := 89) rfl ?_
    refine mm_isub dX8_unlike_89 (pc' := 90) rfl ?_
    exact s_X8_unlike_J90 (hr41 := hr41) h
  · replace h := mm_if h c
    clear c
    refine mm_iload_n 2 dX8_unlike_75 rfl rfl (pc' := 76) rfl ?_
    refine mm_iload 5 dX8_unlike_76 rfl (pc' := 78) rfl ?_
    refine mm_isub dX8_unlike_78 (pc' := 79) rfl ?_
    refine mm_iconst dX8_unlike_79 ki_1 (pc' := 80) rfl ?_
    refine mm_iadd dX8_unlike_80 (pc' := 81) rfl ?_
    refine mm_iconst dX8_unlike_81 ki_2 (pc' := 82) rfl ?_
    refine mm_idiv dX8_unlike_82 (by decide) (pc' := 83) rfl ?_
    refine mm_goto (tgt := 90) dX8_unlike_83 (by decide) ?_
    exact s_X8_unlike_J90 (hr41 := hr41) h
def X8_unlike_L46 (fu : Nat) (rec41 : (Nat → Int32) → Int32 → Int32 → Int32 → Int32 → Option (Int32 × (Nat → Int32) × (Nat → Int32))) (q_refused : Nat → Int32) (q_ones : Nat → Int32) (q_chosen : Nat → Int32) (v2 : Int32) (v3 : Int32) (v4 : Int32) (v5 : Int32) (v7 : Int32) : Nat → Int32 → Option (Int32 × (Nat → Int32) × (Nat → Int32))
  | 0, _ => none
  | n + 1, v6 => if v3 ≤ v6 then (X8_unlike_J70 fu rec41 q_refused q_ones q_chosen v2 v3 v4 v5 v6 v7) else ((f_X8_isUnlike fu q_ones q_chosen v6 v4 v2).bind fun t58 => if t58 = 0 then ((X8_unlike_L46 fu rec41 q_refused q_ones q_chosen v2 v3 v4 v5 v7 n) (v6 + (1 : Int32))) else (X8_unlike_J70 fu rec41 q_refused q_ones q_chosen v2 v3 v4 v5 v6 v7))
set_option maxHeartbeats 4000000 in
set_option maxRecDepth 100000 in
theorem s_X8_unlike_L46 {fu : Nat} {q_textSize : Int32} {q_cursor : Int32} {q_start : Int32} {q_token : Int32} {q_number : Int32} {q_word : Int64} {q_fault : Int32} {q_line : Int32} {q_foundPains : Int32} {q_foundLine : Int32} {q_deadMany : Int32} {q_deadSize : Int32} {q_deadLeast : Int32} {q_deadMost : Int32} {q_st : Nat → Int32} {q_before : Nat → Int32} {q_kept : Nat → Int32} {q_isKept : Nat → Int32} {q_refused : Nat → Int32} {q_text : Nat → Int32} {q_ones : Nat → Int32} {q_said : Nat → Int32} {q_readTable : Nat → Int32} {q_least : Nat → Int32} {q_made : Nat → Int32} {q_enough : Nat → Int32} {q_isWanted : Nat → Int32} {q_column : Nat → Int32} {q_foundColumn : Nat → Int32} {q_walls : Nat → Int64} {q_wallMany : Nat → Int32} {q_chosen : Nat → Int32} {r : Int32 × (Nat → Int32) × (Nat → Int32)} {rec41 : (Nat → Int32) → Int32 → Int32 → Int32 → Int32 → Option (Int32 × (Nat → Int32) × (Nat → Int32))} {v2 : Int32} {v3 : Int32} {v4 : Int32} {v5 : Int32} {v7 : Int32} (hr41 : ∀ (z_q_chosen : Nat → Int32) (y4 : Int32) (y5 : Int32) (y6 : Int32) (y7 : Int32), rec41 z_q_chosen y4 y5 y6 y7 = some r → mm_Wp mX8_unlike (mm_R (P_X8_unlike q_textSize q_cursor q_start q_token q_number q_word q_fault q_line q_foundPains q_foundLine q_deadMany q_deadSize q_deadLeast q_deadMost q_st q_before q_kept q_isKept q_text q_ones q_said q_readTable q_least q_made q_enough q_isWanted q_column q_foundColumn q_walls q_wallMany r)) 0 0 41 [(0, .ref 0), (2, .int v2), (3, .int v3), (4, .int y4), (5, .int y5), (6, .int y6), (7, .int y7)] [] (W_X8 q_textSize q_cursor q_start q_token q_number q_word q_fault q_line q_foundPains q_foundLine q_deadMany q_deadSize q_deadLeast q_deadMost q_st q_before q_kept q_isKept q_refused q_text q_ones q_said q_readTable q_least q_made q_enough q_isWanted q_column q_foundColumn q_walls q_wallMany z_q_chosen)) : ∀ (n : Nat) (v6 : Int32), X8_unlike_L46 fu rec41 q_refused q_ones q_chosen v2 v3 v4 v5 v7 n v6 = some r → mm_Wp mX8_unlike (mm_R (P_X8_unlike q_textSize q_cursor q_start q_token q_number q_word q_fault q_line q_foundPains q_foundLine q_deadMany q_deadSize q_deadLeast q_deadMost q_st q_before q_kept q_isKept q_text q_ones q_said q_readTable q_least q_made q_enough q_isWanted q_column q_foundColumn q_walls q_wallMany r)) 0 0 46 [(0, .ref 0), (2, .int v2), (3, .int v3), (4, .int v4), (5, .int v5), (6, .int v6), (7, .int v7)] [] (W_X8 q_textSize q_cursor q_start q_token q_number q_word q_fault q_line q_foundPains q_foundLine q_deadMany q_deadSize q_deadLeast q_deadMost q_st q_before q_kept q_isKept q_refused q_text q_ones q_said q_readTable q_least q_made q_enough q_isWanted q_column q_foundColumn q_walls q_wallMany q_chosen) := by
  intro n
  induction n with
  | zero =>
    intro v6 h
    rw [X8_unlike_L46] at h
    cases h
  | succ n hr46 =>
    intro v6 h
    rw [X8_unlike_L46] at h
    refine mm_iload 5 dX8_unlike_46 rfl (pc' := 48) rfl ?_
    refine mm_iload_n 2 dX8_unlike_48 rfl rfl (pc' := 49) rfl ?_
    refine mm_icmp_ge (tgt := 70) dX8_unlike_49 (by decide) (pc' := 52) rfl (fun c => ?_) (fun c => ?_)
    · replace h := mm_it h c
      clear c
      exact s_X8_unlike_J70 (hr41 := hr41) h
    · replace h := mm_if h c
      clear c
      refine mm_aload_n 0 dX8_unlike_52 rfl rfl (pc' := 53) rfl ?_
      refine mm_iload 5 dX8_unlike_53 rfl (pc' := 55) rfl ?_
      refine mm_iload 3 dX8_unlike_55 rfl (pc' := 57) rfl ?_
      refine mm_iload_n 1 dX8_unlike_57 rfl rfl (pc' := 58) rfl ?_
      obtain ⟨t58, h58, h⟩ := mm_bd h
      refine mm_call0 (As := [.int v6, .int v4, .int v2]) (rest := []) cV_X8_286 (ok_X8_isUnlike h58) ⟨rfl, rfl, Nat.le_of_ble_eq_true rfl, Nat.le_of_ble_eq_true rfl⟩ dX8_unlike_58 rfl rfl rfl rfl (by rintro _ _ ⟨-, rfl⟩; rfl) (Nat.le_of_ble_eq_true rfl) ⟨Nat.le_of_ble_eq_true rfl, Nat.le_of_ble_eq_true rfl⟩ (pc' := 61) rfl ?_
      rintro rv w ⟨rfl, rfl⟩
      show mm_Wp _ _ _ _ 61 [(0, .ref 0), (2, .int v2), (3, .int v3), (4, .int v4), (5, .int v5), (6, .int v6), (7, .int v7)] [.int t58] (W_X8 q_textSize q_cursor q_start q_token q_number q_word q_fault q_line q_foundPains q_foundLine q_deadMany q_deadSize q_deadLeast q_deadMost q_st q_before q_kept q_isKept q_refused q_text q_ones q_said q_readTable q_least q_made q_enough q_isWanted q_column q_foundColumn q_walls q_wallMany q_chosen)
      clear h58
      refine mm_if_ne (tgt := 70) dX8_unlike_61 (by decide) (pc' := 64) rfl (fun c => ?_) (fun c => ?_)
      · replace h := mm_if h c
        clear c
        exact s_X8_unlike_J70 (hr41 := hr41) h
      · replace h := mm_it h c
        clear c
        refine mm_iinc 5 dX8_unlike_64 rfl ki_1 (by decide) (l' := [(6, .int (v6 + (1 : Int32))), (0, .ref 0), (2, .int v2), (3, .int v3), (4, .int v4), (5, .int v5), (7, .int v7)]) rfl (pc' := 67) rfl ?_
        refine mm_goto (tgt := 46) dX8_unlike_67 (by decide) ?_
        exact mm_sub [1, 2, 3, 4, 5, 0, 6] rfl (hr46 _ h)
def X8_unlike_L41 (fu : Nat)  (q_refused : Nat → Int32) (q_ones : Nat → Int32) (v2 : Int32) (v3 : Int32) : Nat → (Nat → Int32) → Int32 → Int32 → Int32 → Int32 → Option (Int32 × (Nat → Int32) × (Nat → Int32))
  | 0, _, _, _, _, _ => none
  | n + 1, q_chosen, v4, v5, v6, v7 => if v7 = 0 then (some (v5, q_refused, q_chosen)) else (X8_unlike_L46 fu (X8_unlike_L41 fu q_refused q_ones v2 v3 n) q_refused q_ones q_chosen v2 v3 v4 v5 v7 fu v6)
set_option maxHeartbeats 4000000 in
set_option maxRecDepth 100000 in
theorem s_X8_unlike_L41 {fu : Nat} {q_textSize : Int32} {q_cursor : Int32} {q_start : Int32} {q_token : Int32} {q_number : Int32} {q_word : Int64} {q_fault : Int32} {q_line : Int32} {q_foundPains : Int32} {q_foundLine : Int32} {q_deadMany : Int32} {q_deadSize : Int32} {q_deadLeast : Int32} {q_deadMost : Int32} {q_st : Nat → Int32} {q_before : Nat → Int32} {q_kept : Nat → Int32} {q_isKept : Nat → Int32} {q_refused : Nat → Int32} {q_text : Nat → Int32} {q_ones : Nat → Int32} {q_said : Nat → Int32} {q_readTable : Nat → Int32} {q_least : Nat → Int32} {q_made : Nat → Int32} {q_enough : Nat → Int32} {q_isWanted : Nat → Int32} {q_column : Nat → Int32} {q_foundColumn : Nat → Int32} {q_walls : Nat → Int64} {q_wallMany : Nat → Int32} {r : Int32 × (Nat → Int32) × (Nat → Int32)} {v2 : Int32} {v3 : Int32} : ∀ (n : Nat) (q_chosen : Nat → Int32) (v4 : Int32) (v5 : Int32) (v6 : Int32) (v7 : Int32), X8_unlike_L41 fu q_refused q_ones v2 v3 n q_chosen v4 v5 v6 v7 = some r → mm_Wp mX8_unlike (mm_R (P_X8_unlike q_textSize q_cursor q_start q_token q_number q_word q_fault q_line q_foundPains q_foundLine q_deadMany q_deadSize q_deadLeast q_deadMost q_st q_before q_kept q_isKept q_text q_ones q_said q_readTable q_least q_made q_enough q_isWanted q_column q_foundColumn q_walls q_wallMany r)) 0 0 41 [(0, .ref 0), (2, .int v2), (3, .int v3), (4, .int v4), (5, .int v5), (6, .int v6), (7, .int v7)] [] (W_X8 q_textSize q_cursor q_start q_token q_number q_word q_fault q_line q_foundPains q_foundLine q_deadMany q_deadSize q_deadLeast q_deadMost q_st q_before q_kept q_isKept q_refused q_text q_ones q_said q_readTable q_least q_made q_enough q_isWanted q_column q_foundColumn q_walls q_wallMany q_chosen) := by
  intro n
  induction n with
  | zero =>
    intro q_chosen v4 v5 v6 v7 h
    rw [X8_unlike_L41] at h
    cases h
  | succ n hr41 =>
    intro q_chosen v4 v5 v6 v7 h
    rw [X8_unlike_L41] at h
    refine mm_iload 6 dX8_unlike_41 rfl (pc' := 43) rfl ?_
    refine mm_if_eq (tgt := 180) dX8_unlike_43 (by decide) (pc' := 46) rfl (fun c => ?_) (fun c => ?_)
    · replace h := mm_it h c
      clear c
      refine mm_iload 4 dX8_unlike_180 rfl (pc' := 182) rfl ?_
      have h9 := Option.some.inj h
      subst h9
      exact mm_iret rfl dX8_unlike_182 ⟨rfl, rfl⟩
    · replace h := mm_if h c
      clear c
      exact s_X8_unlike_L46 (hr41 := hr41) _ _ h
def f_X8_unlike (fu : Nat) (q_refused : Nat → Int32) (q_ones : Nat → Int32) (q_chosen : Nat → Int32) (v1 : Int32) (v2 : Int32) : Option (Int32 × (Nat → Int32) × (Nat → Int32)) := (f_X8_in fu v1 (1 : Int32) (5 : Int32)).bind fun t3 => if t3 = 0 then (X8_unlike_J18 fu q_refused q_ones q_chosen) else ((f_X8_in fu v2 (1 : Int32) v1).bind fun t12 => if t12 = 0 then (X8_unlike_J18 fu q_refused q_ones q_chosen) else (mm_let ((1 : Int32) <<< (v1 &&& 31)) fun y28 => X8_unlike_L41 fu q_refused q_ones v2 y28 fu q_chosen (0 : Int32) (0 : Int32) (0 : Int32) (1 : Int32)))
set_option maxHeartbeats 4000000 in
set_option maxRecDepth 100000 in
theorem ok_X8_unlike {fu : Nat} {q_textSize : Int32} {q_cursor : Int32} {q_start : Int32} {q_token : Int32} {q_number : Int32} {q_word : Int64} {q_fault : Int32} {q_line : Int32} {q_foundPains : Int32} {q_foundLine : Int32} {q_deadMany : Int32} {q_deadSize : Int32} {q_deadLeast : Int32} {q_deadMost : Int32} {q_st : Nat → Int32} {q_before : Nat → Int32} {q_kept : Nat → Int32} {q_isKept : Nat → Int32} {q_refused : Nat → Int32} {q_text : Nat → Int32} {q_ones : Nat → Int32} {q_said : Nat → Int32} {q_readTable : Nat → Int32} {q_least : Nat → Int32} {q_made : Nat → Int32} {q_enough : Nat → Int32} {q_isWanted : Nat → Int32} {q_column : Nat → Int32} {q_foundColumn : Nat → Int32} {q_walls : Nat → Int64} {q_wallMany : Nat → Int32} {q_chosen : Nat → Int32} {r : Int32 × (Nat → Int32) × (Nat → Int32)} {v1 : Int32} {v2 : Int32} (h : f_X8_unlike fu q_refused q_ones q_chosen v1 v2 = some r) : mm_Ok mX8_unlike [.ref 0, .int v1, .int v2] (W_X8 q_textSize q_cursor q_start q_token q_number q_word q_fault q_line q_foundPains q_foundLine q_deadMany q_deadSize q_deadLeast q_deadMost q_st q_before q_kept q_isKept q_refused q_text q_ones q_said q_readTable q_least q_made q_enough q_isWanted q_column q_foundColumn q_walls q_wallMany q_chosen) (P_X8_unlike q_textSize q_cursor q_start q_token q_number q_word q_fault q_line q_foundPains q_foundLine q_deadMany q_deadSize q_deadLeast q_deadMost q_st q_before q_kept q_isKept q_text q_ones q_said q_readTable q_least q_made q_enough q_isWanted q_column q_foundColumn q_walls q_wallMany r) := by
  rw [f_X8_unlike] at h
  refine mm_Ok.of pn_X8 (l := [(0, .ref 0), (1, .int v1), (2, .int v2)]) rfl (Nat.le_of_ble_eq_true rfl) ?_
  refine mm_iload_n 1 dX8_unlike_0 rfl rfl (pc' := 1) rfl ?_
  refine mm_iconst dX8_unlike_1 ki_1 (pc' := 2) rfl ?_
  refine mm_iconst dX8_unlike_2 ki_5 (pc' := 3) rfl ?_
  obtain ⟨t3, h3, h⟩ := mm_bd h
  refine mm_callS (As := [.int v1, .int (1 : Int32), .int (5 : Int32)]) (rest := []) (av := [.int v1, .int (1 : Int32), .int (5 : Int32)]) (wc := []) (is := []) cS_X8_70 (ok_X8_in h3) ⟨rfl, rfl, Nat.le_of_ble_eq_true rfl, Nat.le_of_ble_eq_true rfl⟩ dX8_unlike_3 rfl rfl rfl ⟨rfl, by decide, by decide⟩ (by rintro _ _ ⟨-, rfl⟩; rfl) (Nat.le_of_ble_eq_true rfl) ⟨Nat.le_of_ble_eq_true rfl, Nat.le_of_ble_eq_true rfl⟩ (pc' := 6) rfl ?_
  rintro rv w ⟨rfl, rfl⟩
  show mm_Wp _ _ _ _ 6 [(0, .ref 0), (1, .int v1), (2, .int v2)] [.int t3] (W_X8 q_textSize q_cursor q_start q_token q_number q_word q_fault q_line q_foundPains q_foundLine q_deadMany q_deadSize q_deadLeast q_deadMost q_st q_before q_kept q_isKept q_refused q_text q_ones q_said q_readTable q_least q_made q_enough q_isWanted q_column q_foundColumn q_walls q_wallMany q_chosen)
  clear h3
  refine mm_if_eq (tgt := 18) dX8_unlike_6 (by decide) (pc' := 9) rfl (fun c => ?_) (fun c => ?_)
  · replace h := mm_it h c
    clear c
    exact mm_sub [0] rfl (s_X8_unlike_J18  h)
  · replace h := mm_if h c
    clear c
    refine mm_iload_n 2 dX8_unlike_9 rfl rfl (pc' := 10) rfl ?_
    refine mm_iconst dX8_unlike_10 ki_1 (pc' := 11) rfl ?_
    refine mm_iload_n 1 dX8_unlike_11 rfl rfl (pc' := 12) rfl ?_
    obtain ⟨t12, h12, h⟩ := mm_bd h
    refine mm_callS (As := [.int v2, .int (1 : Int32), .int v1]) (rest := []) (av := [.int v2, .int (1 : Int32), .int v1]) (wc := []) (is := []) cS_X8_70 (ok_X8_in h12) ⟨rfl, rfl, Nat.le_of_ble_eq_true rfl, Nat.le_of_ble_eq_true rfl⟩ dX8_unlike_12 rfl rfl rfl ⟨rfl, by decide, by decide⟩ (by rintro _ _ ⟨-, rfl⟩; rfl) (Nat.le_of_ble_eq_true rfl) ⟨Nat.le_of_ble_eq_true rfl, Nat.le_of_ble_eq_true rfl⟩ (pc' := 15) rfl ?_
    rintro rv w ⟨rfl, rfl⟩
    show mm_Wp _ _ _ _ 15 [(0, .ref 0), (1, .int v1), (2, .int v2)] [.int t12] (W_X8 q_textSize q_cursor q_start q_token q_number q_word q_fault q_line q_foundPains q_foundLine q_deadMany q_deadSize q_deadLeast q_deadMost q_st q_before q_kept q_isKept q_refused q_text q_ones q_said q_readTable q_least q_made q_enough q_isWanted q_column q_foundColumn q_walls q_wallMany q_chosen)
    clear h12
    refine mm_if_ne (tgt := 25) dX8_unlike_15 (by decide) (pc' := 18) rfl (fun c => ?_) (fun c => ?_)
    · replace h := mm_if h c
      clear c
      refine mm_iconst dX8_unlike_25 ki_1 (pc' := 26) rfl ?_
      refine mm_iload_n 1 dX8_unlike_26 rfl rfl (pc' := 27) rfl ?_
      refine mm_ishl dX8_unlike_27 (pc' := 28) rfl ?_
      refine mm_topi (fun y28 e => ?_)
      replace h := mm_let_of h y28 e
      clear e
      refine mm_istore_n dX8_unlike_28 rfl (by decide) (l' := [(3, .int y28), (0, .ref 0), (1, .int v1), (2, .int v2)]) rfl (pc' := 29) rfl ?_
      refine mm_iconst dX8_unlike_29 ki_0 (pc' := 30) rfl ?_
      refine mm_istore dX8_unlike_30 (by decide) (l' := [(4, .int (0 : Int32)), (3, .int y28), (0, .ref 0), (1, .int v1), (2, .int v2)]) rfl (pc' := 32) rfl ?_
      refine mm_iconst dX8_unlike_32 ki_0 (pc' := 33) rfl ?_
      refine mm_istore dX8_unlike_33 (by decide) (l' := [(5, .int (0 : Int32)), (4, .int (0 : Int32)), (3, .int y28), (0, .ref 0), (1, .int v1), (2, .int v2)]) rfl (pc' := 35) rfl ?_
      refine mm_iconst dX8_unlike_35 ki_0 (pc' := 36) rfl ?_
      refine mm_istore dX8_unlike_36 (by decide) (l' := [(6, .int (0 : Int32)), (5, .int (0 : Int32)), (4, .int (0 : Int32)), (3, .int y28), (0, .ref 0), (1, .int v1), (2, .int v2)]) rfl (pc' := 38) rfl ?_
      refine mm_iconst dX8_unlike_38 ki_1 (pc' := 39) rfl ?_
      refine mm_istore dX8_unlike_39 (by decide) (l' := [(7, .int (1 : Int32)), (6, .int (0 : Int32)), (5, .int (0 : Int32)), (4, .int (0 : Int32)), (3, .int y28), (0, .ref 0), (1, .int v1), (2, .int v2)]) rfl (pc' := 41) rfl ?_
      exact mm_sub [5, 7, 4, 3, 2, 1, 0] rfl (s_X8_unlike_L41  _ _ _ _ _ _ h)
    · replace h := mm_it h c
      clear c
      exact mm_sub [0] rfl (s_X8_unlike_J18  h)

def P_X8_image (q_textSize : Int32) (q_cursor : Int32) (q_start : Int32) (q_token : Int32) (q_number : Int32) (q_word : Int64) (q_fault : Int32) (q_line : Int32) (q_foundPains : Int32) (q_foundLine : Int32) (q_deadMany : Int32) (q_deadSize : Int32) (q_deadLeast : Int32) (q_deadMost : Int32) (q_st : Nat → Int32) (q_before : Nat → Int32) (q_text : Nat → Int32) (q_ones : Nat → Int32) (q_said : Nat → Int32) (q_readTable : Nat → Int32) (q_least : Nat → Int32) (q_made : Nat → Int32) (q_enough : Nat → Int32) (q_isWanted : Nat → Int32) (q_column : Nat → Int32) (q_foundColumn : Nat → Int32) (q_walls : Nat → Int64) (q_wallMany : Nat → Int32) (q_chosen : Nat → Int32) (r : Int32 × (Nat → Int32) × (Nat → Int32) × (Nat → Int32)) : Option Value → mm_W → Prop := fun rv w => rv = some (.int r.1) ∧ w = (W_X8 q_textSize q_cursor q_start q_token q_number q_word q_fault q_line q_foundPains q_foundLine q_deadMany q_deadSize q_deadLeast q_deadMost q_st q_before r.2.1 r.2.2.1 r.2.2.2 q_text q_ones q_said q_readTable q_least q_made q_enough q_isWanted q_column q_foundColumn q_walls q_wallMany q_chosen)
def X8_image_L18 (fu : Nat)  (q_st : Nat → Int32) (q_isKept : Nat → Int32) (q_refused : Nat → Int32) (v1 : Int32) : Nat → (Nat → Int32) → Int32 → Option (Int32 × (Nat → Int32) × (Nat → Int32) × (Nat → Int32))
  | 0, _, _ => none
  | n + 1, q_kept, v2 => if (354 : Int32) ≤ v2 then (mm_ck 2 v1 (some ((1 : Int32), q_kept, upd q_isKept v1.toNatClampNeg (vp_nar .boolean (1 : Int32)), q_refused))) else (mm_rd q_st 354 v2 fun x41 => mm_ck 708 (((354 : Int32) * v1) + v2) ((X8_image_L18 fu q_st q_isKept q_refused v1 n) (upd q_kept (((354 : Int32) * v1) + v2).toNatClampNeg x41) (v2 + (1 : Int32))))
set_option maxHeartbeats 4000000 in
set_option maxRecDepth 100000 in
theorem s_X8_image_L18 {fu : Nat} {q_textSize : Int32} {q_cursor : Int32} {q_start : Int32} {q_token : Int32} {q_number : Int32} {q_word : Int64} {q_fault : Int32} {q_line : Int32} {q_foundPains : Int32} {q_foundLine : Int32} {q_deadMany : Int32} {q_deadSize : Int32} {q_deadLeast : Int32} {q_deadMost : Int32} {q_st : Nat → Int32} {q_before : Nat → Int32} {q_isKept : Nat → Int32} {q_refused : Nat → Int32} {q_text : Nat → Int32} {q_ones : Nat → Int32} {q_said : Nat → Int32} {q_readTable : Nat → Int32} {q_least : Nat → Int32} {q_made : Nat → Int32} {q_enough : Nat → Int32} {q_isWanted : Nat → Int32} {q_column : Nat → Int32} {q_foundColumn : Nat → Int32} {q_walls : Nat → Int64} {q_wallMany : Nat → Int32} {q_chosen : Nat → Int32} {r : Int32 × (Nat → Int32) × (Nat → Int32) × (Nat → Int32)} {v1 : Int32} : ∀ (n : Nat) (q_kept : Nat → Int32) (v2 : Int32), X8_image_L18 fu q_st q_isKept q_refused v1 n q_kept v2 = some r → mm_Wp mX8_image (mm_R (P_X8_image q_textSize q_cursor q_start q_token q_number q_word q_fault q_line q_foundPains q_foundLine q_deadMany q_deadSize q_deadLeast q_deadMost q_st q_before q_text q_ones q_said q_readTable q_least q_made q_enough q_isWanted q_column q_foundColumn q_walls q_wallMany q_chosen r)) 0 0 18 [(0, .ref 0), (1, .int v1), (2, .int v2)] [] (W_X8 q_textSize q_cursor q_start q_token q_number q_word q_fault q_line q_foundPains q_foundLine q_deadMany q_deadSize q_deadLeast q_deadMost q_st q_before q_kept q_isKept q_refused q_text q_ones q_said q_readTable q_least q_made q_enough q_isWanted q_column q_foundColumn q_walls q_wallMany q_chosen) := by
  intro n
  induction n with
  | zero =>
    intro q_kept v2 h
    rw [X8_image_L18] at h
    cases h
  | succ n hr18 =>
    intro q_kept v2 h
    rw [X8_image_L18] at h
    refine mm_iload_n 2 dX8_image_18 rfl rfl (pc' := 19) rfl ?_
    refine mm_sipush dX8_image_19 ks_354 (pc' := 22) rfl ?_
    refine mm_icmp_ge (tgt := 49) dX8_image_22 (by decide) (pc' := 25) rfl (fun c => ?_) (fun c => ?_)
    · replace h := mm_it h c
      clear c
      refine mm_aload_n 0 dX8_image_49 rfl rfl (pc' := 50) rfl ?_
      refine mm_getf fG_X8_19 dX8_image_50 rfl rfl (pc' := 53) rfl ?_
      refine mm_iload_n 1 dX8_image_53 rfl rfl (pc' := 54) rfl ?_
      refine mm_iconst dX8_image_54 ki_1 (pc' := 55) rfl ?_
      obtain ⟨c55, h⟩ := mm_ck_of h
      refine mm_zast dX8_image_55 rfl c55 rfl (ws' := (W_X8 q_textSize q_cursor q_start q_token q_number q_word q_fault q_line q_foundPains q_foundLine q_deadMany q_deadSize q_deadLeast q_deadMost q_st q_before q_kept (upd q_isKept v1.toNatClampNeg (vp_nar .boolean (1 : Int32))) q_refused q_text q_ones q_said q_readTable q_least q_made q_enough q_isWanted q_column q_foundColumn q_walls q_wallMany q_chosen)) rfl (pc' := 56) rfl ?_
      clear c55
      refine mm_iconst dX8_image_56 ki_1 (pc' := 57) rfl ?_
      have h9 := Option.some.inj h
      subst h9
      exact mm_iret rfl dX8_image_57 ⟨rfl, rfl⟩
    · replace h := mm_if h c
      clear c
      refine mm_aload_n 0 dX8_image_25 rfl rfl (pc' := 26) rfl ?_
      refine mm_getf fG_X8_16 dX8_image_26 rfl rfl (pc' := 29) rfl ?_
      refine mm_sipush dX8_image_29 ks_354 (pc' := 32) rfl ?_
      refine mm_iload_n 1 dX8_image_32 rfl rfl (pc' := 33) rfl ?_
      refine mm_imul dX8_image_33 (pc' := 34) rfl ?_
      refine mm_iload_n 2 dX8_image_34 rfl rfl (pc' := 35) rfl ?_
      refine mm_iadd dX8_image_35 (pc' := 36) rfl ?_
      refine mm_aload_n 0 dX8_image_36 rfl rfl (pc' := 37) rfl ?_
      refine mm_getf fG_X8_7 dX8_image_37 rfl rfl (pc' := 40) rfl ?_
      refine mm_iload_n 2 dX8_image_40 rfl rfl (pc' := 41) rfl ?_
      obtain ⟨x41, c41, e41, h⟩ := mm_rd_of h
      refine mm_iald dX8_image_41 rfl c41 e41 (pc' := 42) rfl ?_
      clear c41 e41
      obtain ⟨c42, h⟩ := mm_ck_of h
      refine mm_iast dX8_image_42 rfl c42 rfl (ws' := (W_X8 q_textSize q_cursor q_start q_token q_number q_word q_fault q_line q_foundPains q_foundLine q_deadMany q_deadSize q_deadLeast q_deadMost q_st q_before (upd q_kept (((354 : Int32) * v1) + v2).toNatClampNeg x41) q_isKept q_refused q_text q_ones q_said q_readTable q_least q_made q_enough q_isWanted q_column q_foundColumn q_walls q_wallMany q_chosen)) rfl (pc' := 43) rfl ?_
      clear c42
      refine mm_iinc 2 dX8_image_43 rfl ki_1 (by decide) (l' := [(2, .int (v2 + (1 : Int32))), (0, .ref 0), (1, .int v1)]) rfl (pc' := 46) rfl ?_
      refine mm_goto (tgt := 18) dX8_image_46 (by decide) ?_
      exact mm_sub [1, 2, 0] rfl (hr18 _ _ h)
def f_X8_image (fu : Nat) (q_st : Nat → Int32) (q_kept : Nat → Int32) (q_isKept : Nat → Int32) (q_refused : Nat → Int32) (v1 : Int32) : Option (Int32 × (Nat → Int32) × (Nat → Int32) × (Nat → Int32)) := (f_X8_in fu v1 (0 : Int32) (1 : Int32)).bind fun t3 => if t3 = 0 then ((f_X8_told fu q_refused (-2 : Int32)).bind fun t12 => some (t12.1, q_kept, q_isKept, t12.2)) else (X8_image_L18 fu q_st q_isKept q_refused v1 fu q_kept (0 : Int32))
set_option maxHeartbeats 4000000 in
set_option maxRecDepth 100000 in
theorem ok_X8_image {fu : Nat} {q_textSize : Int32} {q_cursor : Int32} {q_start : Int32} {q_token : Int32} {q_number : Int32} {q_word : Int64} {q_fault : Int32} {q_line : Int32} {q_foundPains : Int32} {q_foundLine : Int32} {q_deadMany : Int32} {q_deadSize : Int32} {q_deadLeast : Int32} {q_deadMost : Int32} {q_st : Nat → Int32} {q_before : Nat → Int32} {q_kept : Nat → Int32} {q_isKept : Nat → Int32} {q_refused : Nat → Int32} {q_text : Nat → Int32} {q_ones : Nat → Int32} {q_said : Nat → Int32} {q_readTable : Nat → Int32} {q_least : Nat → Int32} {q_made : Nat → Int32} {q_enough : Nat → Int32} {q_isWanted : Nat → Int32} {q_column : Nat → Int32} {q_foundColumn : Nat → Int32} {q_walls : Nat → Int64} {q_wallMany : Nat → Int32} {q_chosen : Nat → Int32} {r : Int32 × (Nat → Int32) × (Nat → Int32) × (Nat → Int32)} {v1 : Int32} (h : f_X8_image fu q_st q_kept q_isKept q_refused v1 = some r) : mm_Ok mX8_image [.ref 0, .int v1] (W_X8 q_textSize q_cursor q_start q_token q_number q_word q_fault q_line q_foundPains q_foundLine q_deadMany q_deadSize q_deadLeast q_deadMost q_st q_before q_kept q_isKept q_refused q_text q_ones q_said q_readTable q_least q_made q_enough q_isWanted q_column q_foundColumn q_walls q_wallMany q_chosen) (P_X8_image q_textSize q_cursor q_start q_token q_number q_word q_fault q_line q_foundPains q_foundLine q_deadMany q_deadSize q_deadLeast q_deadMost q_st q_before q_text q_ones q_said q_readTable q_least q_made q_enough q_isWanted q_column q_foundColumn q_walls q_wallMany q_chosen r) := by
  rw [f_X8_image] at h
  refine mm_Ok.of pn_X8 (l := [(0, .ref 0), (1, .int v1)]) rfl (Nat.le_of_ble_eq_true rfl) ?_
  refine mm_iload_n 1 dX8_image_0 rfl rfl (pc' := 1) rfl ?_
  refine mm_iconst dX8_image_1 ki_0 (pc' := 2) rfl ?_
  refine mm_iconst dX8_image_2 ki_1 (pc' := 3) rfl ?_
  obtain ⟨t3, h3, h⟩ := mm_bd h
  refine mm_callS (As := [.int v1, .int (0 : Int32), .int (1 : Int32)]) (rest := []) (av := [.int v1, .int (0 : Int32), .int (1 : Int32)]) (wc := []) (is := []) cS_X8_70 (ok_X8_in h3) ⟨rfl, rfl, Nat.le_of_ble_eq_true rfl, Nat.le_of_ble_eq_true rfl⟩ dX8_image_3 rfl rfl rfl ⟨rfl, by decide, by decide⟩ (by rintro _ _ ⟨-, rfl⟩; rfl) (Nat.le_of_ble_eq_true rfl) ⟨Nat.le_of_ble_eq_true rfl, Nat.le_of_ble_eq_true rfl⟩ (pc' := 6) rfl ?_
  rintro rv w ⟨rfl, rfl⟩
  show mm_Wp _ _ _ _ 6 [(0, .ref 0), (1, .int v1)] [.int t3] (W_X8 q_textSize q_cursor q_start q_token q_number q_word q_fault q_line q_foundPains q_foundLine q_deadMany q_deadSize q_deadLeast q_deadMost q_st q_before q_kept q_isKept q_refused q_text q_ones q_said q_readTable q_least q_made q_enough q_isWanted q_column q_foundColumn q_walls q_wallMany q_chosen)
  clear h3
  refine mm_if_ne (tgt := 16) dX8_image_6 (by decide) (pc' := 9) rfl (fun c => ?_) (fun c => ?_)
  · replace h := mm_if h c
    clear c
    refine mm_iconst dX8_image_16 ki_0 (pc' := 17) rfl ?_
    refine mm_istore_n dX8_image_17 rfl (by decide) (l' := [(2, .int (0 : Int32)), (0, .ref 0), (1, .int v1)]) rfl (pc' := 18) rfl ?_
    exact mm_sub [1, 2, 0] rfl (s_X8_image_L18  _ _ _ h)
  · replace h := mm_it h c
    clear c
    refine mm_aload_n 0 dX8_image_9 rfl rfl (pc' := 10) rfl ?_
    refine mm_bipush dX8_image_10 kb_m2 (pc' := 12) rfl ?_
    obtain ⟨t12, h12, h⟩ := mm_bd h
    refine mm_call0 (As := [.int (-2 : Int32)]) (rest := []) cV_X8_92 (ok_X8_told h12) ⟨rfl, rfl, Nat.le_of_ble_eq_true rfl, Nat.le_of_ble_eq_true rfl⟩ dX8_image_12 rfl rfl rfl rfl (by rintro _ _ ⟨-, rfl⟩; rfl) (Nat.le_of_ble_eq_true rfl) ⟨Nat.le_of_ble_eq_true rfl, Nat.le_of_ble_eq_true rfl⟩ (pc' := 15) rfl ?_
    rintro rv w ⟨rfl, rfl⟩
    show mm_Wp _ _ _ _ 15 [(0, .ref 0), (1, .int v1)] [.int t12.1] (W_X8 q_textSize q_cursor q_start q_token q_number q_word q_fault q_line q_foundPains q_foundLine q_deadMany q_deadSize q_deadLeast q_deadMost q_st q_before q_kept q_isKept t12.2 q_text q_ones q_said q_readTable q_least q_made q_enough q_isWanted q_column q_foundColumn q_walls q_wallMany q_chosen)
    clear h12
    have h9 := Option.some.inj h
    subst h9
    exact mm_iret rfl dX8_image_15 ⟨rfl, rfl⟩

def P_X8_from (q_textSize : Int32) (q_cursor : Int32) (q_start : Int32) (q_token : Int32) (q_number : Int32) (q_word : Int64) (q_fault : Int32) (q_line : Int32) (q_foundPains : Int32) (q_foundLine : Int32) (q_deadMany : Int32) (q_deadSize : Int32) (q_deadLeast : Int32) (q_deadMost : Int32) (q_before : Nat → Int32) (q_kept : Nat → Int32) (q_isKept : Nat → Int32) (q_text : Nat → Int32) (q_ones : Nat → Int32) (q_said : Nat → Int32) (q_readTable : Nat → Int32) (q_least : Nat → Int32) (q_made : Nat → Int32) (q_enough : Nat → Int32) (q_isWanted : Nat → Int32) (q_column : Nat → Int32) (q_foundColumn : Nat → Int32) (q_walls : Nat → Int64) (q_wallMany : Nat → Int32) (q_chosen : Nat → Int32) (r : Int32 × (Nat → Int32) × (Nat → Int32)) : Option Value → mm_W → Prop := fun rv w => rv = some (.int r.1) ∧ w = (W_X8 q_textSize q_cursor q_start q_token q_number q_word q_fault q_line q_foundPains q_foundLine q_deadMany q_deadSize q_deadLeast q_deadMost r.2.1 q_before q_kept q_isKept r.2.2 q_text q_ones q_said q_readTable q_least q_made q_enough q_isWanted q_column q_foundColumn q_walls q_wallMany q_chosen)
def X8_from_L34 (fu : Nat)  (q_kept : Nat → Int32) (q_isKept : Nat → Int32) (q_refused : Nat → Int32) (v1 : Int32) : Nat → (Nat → Int32) → Int32 → Option (Int32 × (Nat → Int32) × (Nat → Int32))
  | 0, _, _ => none
  | n + 1, q_st, v2 => if (354 : Int32) ≤ v2 then (some ((1 : Int32), q_st, q_refused)) else (mm_rd q_kept 708 (((354 : Int32) * v1) + v2) fun x57 => mm_ck 354 v2 ((X8_from_L34 fu q_kept q_isKept q_refused v1 n) (upd q_st v2.toNatClampNeg x57) (v2 + (1 : Int32))))
set_option maxHeartbeats 4000000 in
set_option maxRecDepth 100000 in
theorem s_X8_from_L34 {fu : Nat} {q_textSize : Int32} {q_cursor : Int32} {q_start : Int32} {q_token : Int32} {q_number : Int32} {q_word : Int64} {q_fault : Int32} {q_line : Int32} {q_foundPains : Int32} {q_foundLine : Int32} {q_deadMany : Int32} {q_deadSize : Int32} {q_deadLeast : Int32} {q_deadMost : Int32} {q_before : Nat → Int32} {q_kept : Nat → Int32} {q_isKept : Nat → Int32} {q_refused : Nat → Int32} {q_text : Nat → Int32} {q_ones : Nat → Int32} {q_said : Nat → Int32} {q_readTable : Nat → Int32} {q_least : Nat → Int32} {q_made : Nat → Int32} {q_enough : Nat → Int32} {q_isWanted : Nat → Int32} {q_column : Nat → Int32} {q_foundColumn : Nat → Int32} {q_walls : Nat → Int64} {q_wallMany : Nat → Int32} {q_chosen : Nat → Int32} {r : Int32 × (Nat → Int32) × (Nat → Int32)} {v1 : Int32} : ∀ (n : Nat) (q_st : Nat → Int32) (v2 : Int32), X8_from_L34 fu q_kept q_isKept q_refused v1 n q_st v2 = some r → mm_Wp mX8_from (mm_R (P_X8_from q_textSize q_cursor q_start q_token q_number q_word q_fault q_line q_foundPains q_foundLine q_deadMany q_deadSize q_deadLeast q_deadMost q_before q_kept q_isKept q_text q_ones q_said q_readTable q_least q_made q_enough q_isWanted q_column q_foundColumn q_walls q_wallMany q_chosen r)) 0 0 34 [(0, .ref 0), (1, .int v1), (2, .int v2)] [] (W_X8 q_textSize q_cursor q_start q_token q_number q_word q_fault q_line q_foundPains q_foundLine q_deadMany q_deadSize q_deadLeast q_deadMost q_st q_before q_kept q_isKept q_refused q_text q_ones q_said q_readTable q_least q_made q_enough q_isWanted q_column q_foundColumn q_walls q_wallMany q_chosen) := by
  intro n
  induction n with
  | zero =>
    intro q_st v2 h
    rw [X8_from_L34] at h
    cases h
  | succ n hr34 =>
    intro q_st v2 h
    rw [X8_from_L34] at h
    refine mm_iload_n 2 dX8_from_34 rfl rfl (pc' := 35) rfl ?_
    refine mm_sipush dX8_from_35 ks_354 (pc' := 38) rfl ?_
    refine mm_icmp_ge (tgt := 65) dX8_from_38 (by decide) (pc' := 41) rfl (fun c => ?_) (fun c => ?_)
    · replace h := mm_it h c
      clear c
      refine mm_iconst dX8_from_65 ki_1 (pc' := 66) rfl ?_
      have h9 := Option.some.inj h
      subst h9
      exact mm_iret rfl dX8_from_66 ⟨rfl, rfl⟩
    · replace h := mm_if h c
      clear c
      refine mm_aload_n 0 dX8_from_41 rfl rfl (pc' := 42) rfl ?_
      refine mm_getf fG_X8_7 dX8_from_42 rfl rfl (pc' := 45) rfl ?_
      refine mm_iload_n 2 dX8_from_45 rfl rfl (pc' := 46) rfl ?_
      refine mm_aload_n 0 dX8_from_46 rfl rfl (pc' := 47) rfl ?_
      refine mm_getf fG_X8_16 dX8_from_47 rfl rfl (pc' := 50) rfl ?_
      refine mm_sipush dX8_from_50 ks_354 (pc' := 53) rfl ?_
      refine mm_iload_n 1 dX8_from_53 rfl rfl (pc' := 54) rfl ?_
      refine mm_imul dX8_from_54 (pc' := 55) rfl ?_
      refine mm_iload_n 2 dX8_from_55 rfl rfl (pc' := 56) rfl ?_
      refine mm_iadd dX8_from_56 (pc' := 57) rfl ?_
      obtain ⟨x57, c57, e57, h⟩ := mm_rd_of h
      refine mm_iald dX8_from_57 rfl c57 e57 (pc' := 58) rfl ?_
      clear c57 e57
      obtain ⟨c58, h⟩ := mm_ck_of h
      refine mm_iast dX8_from_58 rfl c58 rfl (ws' := (W_X8 q_textSize q_cursor q_start q_token q_number q_word q_fault q_line q_foundPains q_foundLine q_deadMany q_deadSize q_deadLeast q_deadMost (upd q_st v2.toNatClampNeg x57) q_before q_kept q_isKept q_refused q_text q_ones q_said q_readTable q_least q_made q_enough q_isWanted q_column q_foundColumn q_walls q_wallMany q_chosen)) rfl (pc' := 59) rfl ?_
      clear c58
      refine mm_iinc 2 dX8_from_59 rfl ki_1 (by decide) (l' := [(2, .int (v2 + (1 : Int32))), (0, .ref 0), (1, .int v1)]) rfl (pc' := 62) rfl ?_
      refine mm_goto (tgt := 34) dX8_from_62 (by decide) ?_
      exact mm_sub [1, 2, 0] rfl (hr34 _ _ h)
def f_X8_from (fu : Nat) (q_st : Nat → Int32) (q_kept : Nat → Int32) (q_isKept : Nat → Int32) (q_refused : Nat → Int32) (v1 : Int32) : Option (Int32 × (Nat → Int32) × (Nat → Int32)) := (f_X8_in fu v1 (0 : Int32) (1 : Int32)).bind fun t3 => if t3 = 0 then ((f_X8_told fu q_refused (-2 : Int32)).bind fun t12 => some (t12.1, q_st, t12.2)) else (mm_rd q_isKept 2 v1 fun x21 => if x21 = 0 then ((f_X8_told fu q_refused (-3 : Int32)).bind fun t28 => some (t28.1, q_st, t28.2)) else (X8_from_L34 fu q_kept q_isKept q_refused v1 fu q_st (0 : Int32)))
set_option maxHeartbeats 4000000 in
set_option maxRecDepth 100000 in
theorem ok_X8_from {fu : Nat} {q_textSize : Int32} {q_cursor : Int32} {q_start : Int32} {q_token : Int32} {q_number : Int32} {q_word : Int64} {q_fault : Int32} {q_line : Int32} {q_foundPains : Int32} {q_foundLine : Int32} {q_deadMany : Int32} {q_deadSize : Int32} {q_deadLeast : Int32} {q_deadMost : Int32} {q_st : Nat → Int32} {q_before : Nat → Int32} {q_kept : Nat → Int32} {q_isKept : Nat → Int32} {q_refused : Nat → Int32} {q_text : Nat → Int32} {q_ones : Nat → Int32} {q_said : Nat → Int32} {q_readTable : Nat → Int32} {q_least : Nat → Int32} {q_made : Nat → Int32} {q_enough : Nat → Int32} {q_isWanted : Nat → Int32} {q_column : Nat → Int32} {q_foundColumn : Nat → Int32} {q_walls : Nat → Int64} {q_wallMany : Nat → Int32} {q_chosen : Nat → Int32} {r : Int32 × (Nat → Int32) × (Nat → Int32)} {v1 : Int32} (h : f_X8_from fu q_st q_kept q_isKept q_refused v1 = some r) : mm_Ok mX8_from [.ref 0, .int v1] (W_X8 q_textSize q_cursor q_start q_token q_number q_word q_fault q_line q_foundPains q_foundLine q_deadMany q_deadSize q_deadLeast q_deadMost q_st q_before q_kept q_isKept q_refused q_text q_ones q_said q_readTable q_least q_made q_enough q_isWanted q_column q_foundColumn q_walls q_wallMany q_chosen) (P_X8_from q_textSize q_cursor q_start q_token q_number q_word q_fault q_line q_foundPains q_foundLine q_deadMany q_deadSize q_deadLeast q_deadMost q_before q_kept q_isKept q_text q_ones q_said q_readTable q_least q_made q_enough q_isWanted q_column q_foundColumn q_walls q_wallMany q_chosen r) := by
  rw [f_X8_from] at h
  refine mm_Ok.of pn_X8 (l := [(0, .ref 0), (1, .int v1)]) rfl (Nat.le_of_ble_eq_true rfl) ?_
  refine mm_iload_n 1 dX8_from_0 rfl rfl (pc' := 1) rfl ?_
  refine mm_iconst dX8_from_1 ki_0 (pc' := 2) rfl ?_
  refine mm_iconst dX8_from_2 ki_1 (pc' := 3) rfl ?_
  obtain ⟨t3, h3, h⟩ := mm_bd h
  refine mm_callS (As := [.int v1, .int (0 : Int32), .int (1 : Int32)]) (rest := []) (av := [.int v1, .int (0 : Int32), .int (1 : Int32)]) (wc := []) (is := []) cS_X8_70 (ok_X8_in h3) ⟨rfl, rfl, Nat.le_of_ble_eq_true rfl, Nat.le_of_ble_eq_true rfl⟩ dX8_from_3 rfl rfl rfl ⟨rfl, by decide, by decide⟩ (by rintro _ _ ⟨-, rfl⟩; rfl) (Nat.le_of_ble_eq_true rfl) ⟨Nat.le_of_ble_eq_true rfl, Nat.le_of_ble_eq_true rfl⟩ (pc' := 6) rfl ?_
  rintro rv w ⟨rfl, rfl⟩
  show mm_Wp _ _ _ _ 6 [(0, .ref 0), (1, .int v1)] [.int t3] (W_X8 q_textSize q_cursor q_start q_token q_number q_word q_fault q_line q_foundPains q_foundLine q_deadMany q_deadSize q_deadLeast q_deadMost q_st q_before q_kept q_isKept q_refused q_text q_ones q_said q_readTable q_least q_made q_enough q_isWanted q_column q_foundColumn q_walls q_wallMany q_chosen)
  clear h3
  refine mm_if_ne (tgt := 16) dX8_from_6 (by decide) (pc' := 9) rfl (fun c => ?_) (fun c => ?_)
  · replace h := mm_if h c
    clear c
    refine mm_aload_n 0 dX8_from_16 rfl rfl (pc' := 17) rfl ?_
    refine mm_getf fG_X8_19 dX8_from_17 rfl rfl (pc' := 20) rfl ?_
    refine mm_iload_n 1 dX8_from_20 rfl rfl (pc' := 21) rfl ?_
    obtain ⟨x21, c21, e21, h⟩ := mm_rd_of h
    refine mm_zald dX8_from_21 rfl c21 e21 (pc' := 22) rfl ?_
    clear c21 e21
    refine mm_if_ne (tgt := 32) dX8_from_22 (by decide) (pc' := 25) rfl (fun c => ?_) (fun c => ?_)
    · replace h := mm_if h c
      clear c
      refine mm_iconst dX8_from_32 ki_0 (pc' := 33) rfl ?_
      refine mm_istore_n dX8_from_33 rfl (by decide) (l' := [(2, .int (0 : Int32)), (0, .ref 0), (1, .int v1)]) rfl (pc' := 34) rfl ?_
      exact mm_sub [1, 2, 0] rfl (s_X8_from_L34  _ _ _ h)
    · replace h := mm_it h c
      clear c
      refine mm_aload_n 0 dX8_from_25 rfl rfl (pc' := 26) rfl ?_
      refine mm_bipush dX8_from_26 kb_m3 (pc' := 28) rfl ?_
      obtain ⟨t28, h28, h⟩ := mm_bd h
      refine mm_call0 (As := [.int (-3 : Int32)]) (rest := []) cV_X8_92 (ok_X8_told h28) ⟨rfl, rfl, Nat.le_of_ble_eq_true rfl, Nat.le_of_ble_eq_true rfl⟩ dX8_from_28 rfl rfl rfl rfl (by rintro _ _ ⟨-, rfl⟩; rfl) (Nat.le_of_ble_eq_true rfl) ⟨Nat.le_of_ble_eq_true rfl, Nat.le_of_ble_eq_true rfl⟩ (pc' := 31) rfl ?_
      rintro rv w ⟨rfl, rfl⟩
      show mm_Wp _ _ _ _ 31 [(0, .ref 0), (1, .int v1)] [.int t28.1] (W_X8 q_textSize q_cursor q_start q_token q_number q_word q_fault q_line q_foundPains q_foundLine q_deadMany q_deadSize q_deadLeast q_deadMost q_st q_before q_kept q_isKept t28.2 q_text q_ones q_said q_readTable q_least q_made q_enough q_isWanted q_column q_foundColumn q_walls q_wallMany q_chosen)
      clear h28
      have h9 := Option.some.inj h
      subst h9
      exact mm_iret rfl dX8_from_31 ⟨rfl, rfl⟩
  · replace h := mm_it h c
    clear c
    refine mm_aload_n 0 dX8_from_9 rfl rfl (pc' := 10) rfl ?_
    refine mm_bipush dX8_from_10 kb_m2 (pc' := 12) rfl ?_
    obtain ⟨t12, h12, h⟩ := mm_bd h
    refine mm_call0 (As := [.int (-2 : Int32)]) (rest := []) cV_X8_92 (ok_X8_told h12) ⟨rfl, rfl, Nat.le_of_ble_eq_true rfl, Nat.le_of_ble_eq_true rfl⟩ dX8_from_12 rfl rfl rfl rfl (by rintro _ _ ⟨-, rfl⟩; rfl) (Nat.le_of_ble_eq_true rfl) ⟨Nat.le_of_ble_eq_true rfl, Nat.le_of_ble_eq_true rfl⟩ (pc' := 15) rfl ?_
    rintro rv w ⟨rfl, rfl⟩
    show mm_Wp _ _ _ _ 15 [(0, .ref 0), (1, .int v1)] [.int t12.1] (W_X8 q_textSize q_cursor q_start q_token q_number q_word q_fault q_line q_foundPains q_foundLine q_deadMany q_deadSize q_deadLeast q_deadMost q_st q_before q_kept q_isKept t12.2 q_text q_ones q_said q_readTable q_least q_made q_enough q_isWanted q_column q_foundColumn q_walls q_wallMany q_chosen)
    clear h12
    have h9 := Option.some.inj h
    subst h9
    exact mm_iret rfl dX8_from_15 ⟨rfl, rfl⟩

def P_X8_status (q_textSize : Int32) (q_cursor : Int32) (q_start : Int32) (q_token : Int32) (q_number : Int32) (q_word : Int64) (q_fault : Int32) (q_line : Int32) (q_foundPains : Int32) (q_foundLine : Int32) (q_deadMany : Int32) (q_deadSize : Int32) (q_deadLeast : Int32) (q_deadMost : Int32) (q_st : Nat → Int32) (q_before : Nat → Int32) (q_kept : Nat → Int32) (q_isKept : Nat → Int32) (q_text : Nat → Int32) (q_ones : Nat → Int32) (q_said : Nat → Int32) (q_readTable : Nat → Int32) (q_least : Nat → Int32) (q_made : Nat → Int32) (q_enough : Nat → Int32) (q_isWanted : Nat → Int32) (q_column : Nat → Int32) (q_foundColumn : Nat → Int32) (q_walls : Nat → Int64) (q_wallMany : Nat → Int32) (q_chosen : Nat → Int32) (r : Int32 × (Nat → Int32)) : Option Value → mm_W → Prop := fun rv w => rv = some (.int r.1) ∧ w = (W_X8 q_textSize q_cursor q_start q_token q_number q_word q_fault q_line q_foundPains q_foundLine q_deadMany q_deadSize q_deadLeast q_deadMost q_st q_before q_kept q_isKept r.2 q_text q_ones q_said q_readTable q_least q_made q_enough q_isWanted q_column q_foundColumn q_walls q_wallMany q_chosen)
def f_X8_status (fu : Nat) (q_refused : Nat → Int32) (v1 : Int32) : Option (Int32 × (Nat → Int32)) := (f_X8_in fu v1 (0 : Int32) (2 : Int32)).bind fun t3 => if t3 = 0 then ((f_X8_told fu q_refused (-2 : Int32)).bind fun t12 => some ((-1 : Int32), t12.2)) else (mm_rd q_refused 3 v1 fun x23 => some (x23, q_refused))
set_option maxHeartbeats 4000000 in
set_option maxRecDepth 100000 in
theorem ok_X8_status {fu : Nat} {q_textSize : Int32} {q_cursor : Int32} {q_start : Int32} {q_token : Int32} {q_number : Int32} {q_word : Int64} {q_fault : Int32} {q_line : Int32} {q_foundPains : Int32} {q_foundLine : Int32} {q_deadMany : Int32} {q_deadSize : Int32} {q_deadLeast : Int32} {q_deadMost : Int32} {q_st : Nat → Int32} {q_before : Nat → Int32} {q_kept : Nat → Int32} {q_isKept : Nat → Int32} {q_refused : Nat → Int32} {q_text : Nat → Int32} {q_ones : Nat → Int32} {q_said : Nat → Int32} {q_readTable : Nat → Int32} {q_least : Nat → Int32} {q_made : Nat → Int32} {q_enough : Nat → Int32} {q_isWanted : Nat → Int32} {q_column : Nat → Int32} {q_foundColumn : Nat → Int32} {q_walls : Nat → Int64} {q_wallMany : Nat → Int32} {q_chosen : Nat → Int32} {r : Int32 × (Nat → Int32)} {v1 : Int32} (h : f_X8_status fu q_refused v1 = some r) : mm_Ok mX8_status [.ref 0, .int v1] (W_X8 q_textSize q_cursor q_start q_token q_number q_word q_fault q_line q_foundPains q_foundLine q_deadMany q_deadSize q_deadLeast q_deadMost q_st q_before q_kept q_isKept q_refused q_text q_ones q_said q_readTable q_least q_made q_enough q_isWanted q_column q_foundColumn q_walls q_wallMany q_chosen) (P_X8_status q_textSize q_cursor q_start q_token q_number q_word q_fault q_line q_foundPains q_foundLine q_deadMany q_deadSize q_deadLeast q_deadMost q_st q_before q_kept q_isKept q_text q_ones q_said q_readTable q_least q_made q_enough q_isWanted q_column q_foundColumn q_walls q_wallMany q_chosen r) := by
  rw [f_X8_status] at h
  refine mm_Ok.of pn_X8 (l := [(0, .ref 0), (1, .int v1)]) rfl (Nat.le_of_ble_eq_true rfl) ?_
  refine mm_iload_n 1 dX8_status_0 rfl rfl (pc' := 1) rfl ?_
  refine mm_iconst dX8_status_1 ki_0 (pc' := 2) rfl ?_
  refine mm_iconst dX8_status_2 ki_2 (pc' := 3) rfl ?_
  obtain ⟨t3, h3, h⟩ := mm_bd h
  refine mm_callS (As := [.int v1, .int (0 : Int32), .int (2 : Int32)]) (rest := []) (av := [.int v1, .int (0 : Int32), .int (2 : Int32)]) (wc := []) (is := []) cS_X8_70 (ok_X8_in h3) ⟨rfl, rfl, Nat.le_of_ble_eq_true rfl, Nat.le_of_ble_eq_true rfl⟩ dX8_status_3 rfl rfl rfl ⟨rfl, by decide, by decide⟩ (by rintro _ _ ⟨-, rfl⟩; rfl) (Nat.le_of_ble_eq_true rfl) ⟨Nat.le_of_ble_eq_true rfl, Nat.le_of_ble_eq_true rfl⟩ (pc' := 6) rfl ?_
  rintro rv w ⟨rfl, rfl⟩
  show mm_Wp _ _ _ _ 6 [(0, .ref 0), (1, .int v1)] [.int t3] (W_X8 q_textSize q_cursor q_start q_token q_number q_word q_fault q_line q_foundPains q_foundLine q_deadMany q_deadSize q_deadLeast q_deadMost q_st q_before q_kept q_isKept q_refused q_text q_ones q_said q_readTable q_least q_made q_enough q_isWanted q_column q_foundColumn q_walls q_wallMany q_chosen)
  clear h3
  refine mm_if_ne (tgt := 18) dX8_status_6 (by decide) (pc' := 9) rfl (fun c => ?_) (fun c => ?_)
  · replace h := mm_if h c
    clear c
    refine mm_aload_n 0 dX8_status_18 rfl rfl (pc' := 19) rfl ?_
    refine mm_getf fG_X8_23 dX8_status_19 rfl rfl (pc' := 22) rfl ?_
    refine mm_iload_n 1 dX8_status_22 rfl rfl (pc' := 23) rfl ?_
    obtain ⟨x23, c23, e23, h⟩ := mm_rd_of h
    refine mm_iald dX8_status_23 rfl c23 e23 (pc' := 24) rfl ?_
    clear c23 e23
    have h9 := Option.some.inj h
    subst h9
    exact mm_iret rfl dX8_status_24 ⟨rfl, rfl⟩
  · replace h := mm_it h c
    clear c
    refine mm_aload_n 0 dX8_status_9 rfl rfl (pc' := 10) rfl ?_
    refine mm_bipush dX8_status_10 kb_m2 (pc' := 12) rfl ?_
    obtain ⟨t12, h12, h⟩ := mm_bd h
    refine mm_call0 (As := [.int (-2 : Int32)]) (rest := []) cV_X8_92 (ok_X8_told h12) ⟨rfl, rfl, Nat.le_of_ble_eq_true rfl, Nat.le_of_ble_eq_true rfl⟩ dX8_status_12 rfl rfl rfl rfl (by rintro _ _ ⟨-, rfl⟩; rfl) (Nat.le_of_ble_eq_true rfl) ⟨Nat.le_of_ble_eq_true rfl, Nat.le_of_ble_eq_true rfl⟩ (pc' := 15) rfl ?_
    rintro rv w ⟨rfl, rfl⟩
    show mm_Wp _ _ _ _ 15 [(0, .ref 0), (1, .int v1)] [.int t12.1] (W_X8 q_textSize q_cursor q_start q_token q_number q_word q_fault q_line q_foundPains q_foundLine q_deadMany q_deadSize q_deadLeast q_deadMost q_st q_before q_kept q_isKept t12.2 q_text q_ones q_said q_readTable q_least q_made q_enough q_isWanted q_column q_foundColumn q_walls q_wallMany q_chosen)
    clear h12
    refine mm_pop dX8_status_15 rfl (pc' := 16) rfl ?_
    refine mm_iconst dX8_status_16 ki_m1 (pc' := 17) rfl ?_
    have h9 := Option.some.inj h
    subst h9
    exact mm_iret rfl dX8_status_17 ⟨rfl, rfl⟩

def P_X8_count (q_textSize : Int32) (q_cursor : Int32) (q_start : Int32) (q_token : Int32) (q_number : Int32) (q_word : Int64) (q_fault : Int32) (q_line : Int32) (q_foundPains : Int32) (q_foundLine : Int32) (q_deadMany : Int32) (q_deadSize : Int32) (q_deadLeast : Int32) (q_deadMost : Int32) (q_st : Nat → Int32) (q_before : Nat → Int32) (q_kept : Nat → Int32) (q_isKept : Nat → Int32) (q_text : Nat → Int32) (q_ones : Nat → Int32) (q_said : Nat → Int32) (q_readTable : Nat → Int32) (q_least : Nat → Int32) (q_made : Nat → Int32) (q_enough : Nat → Int32) (q_isWanted : Nat → Int32) (q_column : Nat → Int32) (q_foundColumn : Nat → Int32) (q_walls : Nat → Int64) (q_wallMany : Nat → Int32) (q_chosen : Nat → Int32) (r : Int32 × (Nat → Int32)) : Option Value → mm_W → Prop := fun rv w => rv = some (.int r.1) ∧ w = (W_X8 q_textSize q_cursor q_start q_token q_number q_word q_fault q_line q_foundPains q_foundLine q_deadMany q_deadSize q_deadLeast q_deadMost q_st q_before q_kept q_isKept r.2 q_text q_ones q_said q_readTable q_least q_made q_enough q_isWanted q_column q_foundColumn q_walls q_wallMany q_chosen)
def f_X8_count (fu : Nat) (q_textSize : Int32) (q_st : Nat → Int32) (q_refused : Nat → Int32) (v1 : Int32) : Option (Int32 × (Nat → Int32)) := (f_X8_in fu v1 (0 : Int32) (4 : Int32)).bind fun t3 => if t3 = 0 then (if v1 = (5 : Int32) then (some (q_textSize, q_refused)) else ((f_X8_told fu q_refused (-2 : Int32)).bind fun t33 => some (t33.1, t33.2))) else (mm_rd q_st 354 v1 fun x14 => some (x14, q_refused))
set_option maxHeartbeats 4000000 in
set_option maxRecDepth 100000 in
theorem ok_X8_count {fu : Nat} {q_textSize : Int32} {q_cursor : Int32} {q_start : Int32} {q_token : Int32} {q_number : Int32} {q_word : Int64} {q_fault : Int32} {q_line : Int32} {q_foundPains : Int32} {q_foundLine : Int32} {q_deadMany : Int32} {q_deadSize : Int32} {q_deadLeast : Int32} {q_deadMost : Int32} {q_st : Nat → Int32} {q_before : Nat → Int32} {q_kept : Nat → Int32} {q_isKept : Nat → Int32} {q_refused : Nat → Int32} {q_text : Nat → Int32} {q_ones : Nat → Int32} {q_said : Nat → Int32} {q_readTable : Nat → Int32} {q_least : Nat → Int32} {q_made : Nat → Int32} {q_enough : Nat → Int32} {q_isWanted : Nat → Int32} {q_column : Nat → Int32} {q_foundColumn : Nat → Int32} {q_walls : Nat → Int64} {q_wallMany : Nat → Int32} {q_chosen : Nat → Int32} {r : Int32 × (Nat → Int32)} {v1 : Int32} (h : f_X8_count fu q_textSize q_st q_refused v1 = some r) : mm_Ok mX8_count [.ref 0, .int v1] (W_X8 q_textSize q_cursor q_start q_token q_number q_word q_fault q_line q_foundPains q_foundLine q_deadMany q_deadSize q_deadLeast q_deadMost q_st q_before q_kept q_isKept q_refused q_text q_ones q_said q_readTable q_least q_made q_enough q_isWanted q_column q_foundColumn q_walls q_wallMany q_chosen) (P_X8_count q_textSize q_cursor q_start q_token q_number q_word q_fault q_line q_foundPains q_foundLine q_deadMany q_deadSize q_deadLeast q_deadMost q_st q_before q_kept q_isKept q_text q_ones q_said q_readTable q_least q_made q_enough q_isWanted q_column q_foundColumn q_walls q_wallMany q_chosen r) := by
  rw [f_X8_count] at h
  refine mm_Ok.of pn_X8 (l := [(0, .ref 0), (1, .int v1)]) rfl (Nat.le_of_ble_eq_true rfl) ?_
  refine mm_iload_n 1 dX8_count_0 rfl rfl (pc' := 1) rfl ?_
  refine mm_iconst dX8_count_1 ki_0 (pc' := 2) rfl ?_
  refine mm_iconst dX8_count_2 ki_4 (pc' := 3) rfl ?_
  obtain ⟨t3, h3, h⟩ := mm_bd h
  refine mm_callS (As := [.int v1, .int (0 : Int32), .int (4 : Int32)]) (rest := []) (av := [.int v1, .int (0 : Int32), .int (4 : Int32)]) (wc := []) (is := []) cS_X8_70 (ok_X8_in h3) ⟨rfl, rfl, Nat.le_of_ble_eq_true rfl, Nat.le_of_ble_eq_true rfl⟩ dX8_count_3 rfl rfl rfl ⟨rfl, by decide, by decide⟩ (by rintro _ _ ⟨-, rfl⟩; rfl) (Nat.le_of_ble_eq_true rfl) ⟨Nat.le_of_ble_eq_true rfl, Nat.le_of_ble_eq_true rfl⟩ (pc' := 6) rfl ?_
  rintro rv w ⟨rfl, rfl⟩
  show mm_Wp _ _ _ _ 6 [(0, .ref 0), (1, .int v1)] [.int t3] (W_X8 q_textSize q_cursor q_start q_token q_number q_word q_fault q_line q_foundPains q_foundLine q_deadMany q_deadSize q_deadLeast q_deadMost q_st q_before q_kept q_isKept q_refused q_text q_ones q_said q_readTable q_least q_made q_enough q_isWanted q_column q_foundColumn q_walls q_wallMany q_chosen)
  clear h3
  refine mm_if_eq (tgt := 18) dX8_count_6 (by decide) (pc' := 9) rfl (fun c => ?_) (fun c => ?_)
  · replace h := mm_it h c
    clear c
    refine mm_iload_n 1 dX8_count_18 rfl rfl (pc' := 19) rfl ?_
    refine mm_iconst dX8_count_19 ki_5 (pc' := 20) rfl ?_
    refine mm_icmp_ne (tgt := 30) dX8_count_20 (by decide) (pc' := 23) rfl (fun c => ?_) (fun c => ?_)
    · replace h := mm_if h c
      clear c
      refine mm_aload_n 0 dX8_count_30 rfl rfl (pc' := 31) rfl ?_
      refine mm_bipush dX8_count_31 kb_m2 (pc' := 33) rfl ?_
      obtain ⟨t33, h33, h⟩ := mm_bd h
      refine mm_call0 (As := [.int (-2 : Int32)]) (rest := []) cV_X8_92 (ok_X8_told h33) ⟨rfl, rfl, Nat.le_of_ble_eq_true rfl, Nat.le_of_ble_eq_true rfl⟩ dX8_count_33 rfl rfl rfl rfl (by rintro _ _ ⟨-, rfl⟩; rfl) (Nat.le_of_ble_eq_true rfl) ⟨Nat.le_of_ble_eq_true rfl, Nat.le_of_ble_eq_true rfl⟩ (pc' := 36) rfl ?_
      rintro rv w ⟨rfl, rfl⟩
      show mm_Wp _ _ _ _ 36 [(0, .ref 0), (1, .int v1)] [.int t33.1] (W_X8 q_textSize q_cursor q_start q_token q_number q_word q_fault q_line q_foundPains q_foundLine q_deadMany q_deadSize q_deadLeast q_deadMost q_st q_before q_kept q_isKept t33.2 q_text q_ones q_said q_readTable q_least q_made q_enough q_isWanted q_column q_foundColumn q_walls q_wallMany q_chosen)
      clear h33
      have h9 := Option.some.inj h
      subst h9
      exact mm_iret rfl dX8_count_36 ⟨rfl, rfl⟩
    · replace h := mm_it h c
      clear c
      refine mm_aload_n 0 dX8_count_23 rfl rfl (pc' := 24) rfl ?_
      refine mm_getf fG_X8_121 dX8_count_24 rfl rfl (pc' := 27) rfl ?_
      refine mm_goto (tgt := 36) dX8_count_27 (by decide) ?_
      have h9 := Option.some.inj h
      subst h9
      exact mm_iret rfl dX8_count_36 ⟨rfl, rfl⟩
  · replace h := mm_if h c
    clear c
    refine mm_aload_n 0 dX8_count_9 rfl rfl (pc' := 10) rfl ?_
    refine mm_getf fG_X8_7 dX8_count_10 rfl rfl (pc' := 13) rfl ?_
    refine mm_iload_n 1 dX8_count_13 rfl rfl (pc' := 14) rfl ?_
    obtain ⟨x14, c14, e14, h⟩ := mm_rd_of h
    refine mm_iald dX8_count_14 rfl c14 e14 (pc' := 15) rfl ?_
    clear c14 e14
    refine mm_goto (tgt := 36) dX8_count_15 (by decide) ?_
    have h9 := Option.some.inj h
    subst h9
    exact mm_iret rfl dX8_count_36 ⟨rfl, rfl⟩

def P_X8_digest (q_textSize : Int32) (q_cursor : Int32) (q_start : Int32) (q_token : Int32) (q_number : Int32) (q_word : Int64) (q_fault : Int32) (q_line : Int32) (q_foundPains : Int32) (q_foundLine : Int32) (q_deadMany : Int32) (q_deadSize : Int32) (q_deadLeast : Int32) (q_deadMost : Int32) (q_st : Nat → Int32) (q_before : Nat → Int32) (q_kept : Nat → Int32) (q_isKept : Nat → Int32) (q_refused : Nat → Int32) (q_text : Nat → Int32) (q_ones : Nat → Int32) (q_said : Nat → Int32) (q_readTable : Nat → Int32) (q_least : Nat → Int32) (q_made : Nat → Int32) (q_enough : Nat → Int32) (q_isWanted : Nat → Int32) (q_column : Nat → Int32) (q_foundColumn : Nat → Int32) (q_walls : Nat → Int64) (q_wallMany : Nat → Int32) (q_chosen : Nat → Int32) (r : Int64) : Option Value → mm_W → Prop := fun rv w => rv = some (.long r) ∧ w = (W_X8 q_textSize q_cursor q_start q_token q_number q_word q_fault q_line q_foundPains q_foundLine q_deadMany q_deadSize q_deadLeast q_deadMost q_st q_before q_kept q_isKept q_refused q_text q_ones q_said q_readTable q_least q_made q_enough q_isWanted q_column q_foundColumn q_walls q_wallMany q_chosen)
def X8_digest_L208 (fu : Nat)  (q_textSize : Int32) (q_st : Nat → Int32)  : Nat → Int64 → Int32 → Option (Int64)
  | 0, _, _ => none
  | n + 1, v1, v3 => if ((3 : Int32) * (q_st 4)) ≤ v3 then (some (v1)) else (mm_rd q_st 354 ((336 : Int32) + v3) fun x234 => mm_let (((31 : Int64) * v1) + x234.toInt64) fun y237 => (X8_digest_L208 fu q_textSize q_st n) y237 (v3 + (1 : Int32)))
set_option maxHeartbeats 4000000 in
set_option maxRecDepth 100000 in
theorem s_X8_digest_L208 {fu : Nat} {q_textSize : Int32} {q_cursor : Int32} {q_start : Int32} {q_token : Int32} {q_number : Int32} {q_word : Int64} {q_fault : Int32} {q_line : Int32} {q_foundPains : Int32} {q_foundLine : Int32} {q_deadMany : Int32} {q_deadSize : Int32} {q_deadLeast : Int32} {q_deadMost : Int32} {q_st : Nat → Int32} {q_before : Nat → Int32} {q_kept : Nat → Int32} {q_isKept : Nat → Int32} {q_refused : Nat → Int32} {q_text : Nat → Int32} {q_ones : Nat → Int32} {q_said : Nat → Int32} {q_readTable : Nat → Int32} {q_least : Nat → Int32} {q_made : Nat → Int32} {q_enough : Nat → Int32} {q_isWanted : Nat → Int32} {q_column : Nat → Int32} {q_foundColumn : Nat → Int32} {q_walls : Nat → Int64} {q_wallMany : Nat → Int32} {q_chosen : Nat → Int32} {r : Int64} : ∀ (n : Nat) (v1 : Int64) (v3 : Int32), X8_digest_L208 fu q_textSize q_st n v1 v3 = some r → mm_Wp mX8_digest (mm_R (P_X8_digest q_textSize q_cursor q_start q_token q_number q_word q_fault q_line q_foundPains q_foundLine q_deadMany q_deadSize q_deadLeast q_deadMost q_st q_before q_kept q_isKept q_refused q_text q_ones q_said q_readTable q_least q_made q_enough q_isWanted q_column q_foundColumn q_walls q_wallMany q_chosen r)) 0 0 208 [(0, .ref 0), (1, .long v1), (3, .int v3)] [] (W_X8 q_textSize q_cursor q_start q_token q_number q_word q_fault q_line q_foundPains q_foundLine q_deadMany q_deadSize q_deadLeast q_deadMost q_st q_before q_kept q_isKept q_refused q_text q_ones q_said q_readTable q_least q_made q_enough q_isWanted q_column q_foundColumn q_walls q_wallMany q_chosen) := by
  intro n
  induction n with
  | zero =>
    intro v1 v3 h
    rw [X8_digest_L208] at h
    cases h
  | succ n hr208 =>
    intro v1 v3 h
    rw [X8_digest_L208] at h
    refine mm_iload_n 2 dX8_digest_208 rfl rfl (pc' := 209) rfl ?_
    refine mm_iconst dX8_digest_209 ki_3 (pc' := 210) rfl ?_
    refine mm_aload_n 0 dX8_digest_210 rfl rfl (pc' := 211) rfl ?_
    refine mm_getf fG_X8_7 dX8_digest_211 rfl rfl (pc' := 214) rfl ?_
    refine mm_iconst dX8_digest_214 ki_4 (pc' := 215) rfl ?_
    refine mm_iald dX8_digest_215 rfl ki_4_354 (congrArg _ kt_4) (pc' := 216) rfl ?_
    refine mm_imul dX8_digest_216 (pc' := 217) rfl ?_
    refine mm_icmp_ge (tgt := 244) dX8_digest_217 (by decide) (pc' := 220) rfl (fun c => ?_) (fun c => ?_)
    · replace h := mm_it h c
      clear c
      refine mm_lload_n 1 dX8_digest_244 rfl rfl (pc' := 245) rfl ?_
      have h9 := Option.some.inj h
      subst h9
      exact mm_lret rfl dX8_digest_245 ⟨rfl, rfl⟩
    · replace h := mm_if h c
      clear c
      refine mm_ldc2 kC_X8_291 dX8_digest_220 (pc' := 223) rfl ?_
      refine mm_lload_n 1 dX8_digest_223 rfl rfl (pc' := 224) rfl ?_
      refine mm_lmul dX8_digest_224 (pc' := 225) rfl ?_
      refine mm_aload_n 0 dX8_digest_225 rfl rfl (pc' := 226) rfl ?_
      refine mm_getf fG_X8_7 dX8_digest_226 rfl rfl (pc' := 229) rfl ?_
      refine mm_sipush dX8_digest_229 ks_336 (pc' := 232) rfl ?_
      refine mm_iload_n 2 dX8_digest_232 rfl rfl (pc' := 233) rfl ?_
      refine mm_iadd dX8_digest_233 (pc' := 234) rfl ?_
      obtain ⟨x234, c234, e234, h⟩ := mm_rd_of h
      refine mm_iald dX8_digest_234 rfl c234 e234 (pc' := 235) rfl ?_
      clear c234 e234
      refine mm_i2l dX8_digest_235 (pc' := 236) rfl ?_
      refine mm_ladd dX8_digest_236 (pc' := 237) rfl ?_
      refine mm_topl (fun y237 e => ?_)
      replace h := mm_let_of h y237 e
      clear e
      refine mm_lstore_n dX8_digest_237 rfl (by decide) (l' := [(1, .long y237), (0, .ref 0), (3, .int v3)]) rfl (pc' := 238) rfl ?_
      refine mm_iinc 2 dX8_digest_238 rfl ki_1 (by decide) (l' := [(3, .int (v3 + (1 : Int32))), (1, .long y237), (0, .ref 0)]) rfl (pc' := 241) rfl ?_
      refine mm_goto (tgt := 208) dX8_digest_241 (by decide) ?_
      exact mm_sub [2, 1, 0] rfl (hr208 _ _ h)
def X8_digest_L159 (fu : Nat)  (q_textSize : Int32) (q_st : Nat → Int32)  : Nat → Int64 → Int32 → Option (Int64)
  | 0, _, _ => none
  | n + 1, v1, v3 => if (q_st 3) ≤ v3 then (mm_let (((31 : Int64) * v1) + ((q_st 5).toInt64)) fun y205 => X8_digest_L208 fu q_textSize q_st fu y205 (0 : Int32)) else (mm_rd q_st 354 ((30 : Int32) + v3) fun x182 => mm_let (((31 : Int64) * v1) + x182.toInt64) fun y185 => (X8_digest_L159 fu q_textSize q_st n) y185 (v3 + (1 : Int32)))
set_option maxHeartbeats 4000000 in
set_option maxRecDepth 100000 in
theorem s_X8_digest_L159 {fu : Nat} {q_textSize : Int32} {q_cursor : Int32} {q_start : Int32} {q_token : Int32} {q_number : Int32} {q_word : Int64} {q_fault : Int32} {q_line : Int32} {q_foundPains : Int32} {q_foundLine : Int32} {q_deadMany : Int32} {q_deadSize : Int32} {q_deadLeast : Int32} {q_deadMost : Int32} {q_st : Nat → Int32} {q_before : Nat → Int32} {q_kept : Nat → Int32} {q_isKept : Nat → Int32} {q_refused : Nat → Int32} {q_text : Nat → Int32} {q_ones : Nat → Int32} {q_said : Nat → Int32} {q_readTable : Nat → Int32} {q_least : Nat → Int32} {q_made : Nat → Int32} {q_enough : Nat → Int32} {q_isWanted : Nat → Int32} {q_column : Nat → Int32} {q_foundColumn : Nat → Int32} {q_walls : Nat → Int64} {q_wallMany : Nat → Int32} {q_chosen : Nat → Int32} {r : Int64} : ∀ (n : Nat) (v1 : Int64) (v3 : Int32), X8_digest_L159 fu q_textSize q_st n v1 v3 = some r → mm_Wp mX8_digest (mm_R (P_X8_digest q_textSize q_cursor q_start q_token q_number q_word q_fault q_line q_foundPains q_foundLine q_deadMany q_deadSize q_deadLeast q_deadMost q_st q_before q_kept q_isKept q_refused q_text q_ones q_said q_readTable q_least q_made q_enough q_isWanted q_column q_foundColumn q_walls q_wallMany q_chosen r)) 0 0 159 [(0, .ref 0), (1, .long v1), (3, .int v3)] [] (W_X8 q_textSize q_cursor q_start q_token q_number q_word q_fault q_line q_foundPains q_foundLine q_deadMany q_deadSize q_deadLeast q_deadMost q_st q_before q_kept q_isKept q_refused q_text q_ones q_said q_readTable q_least q_made q_enough q_isWanted q_column q_foundColumn q_walls q_wallMany q_chosen) := by
  intro n
  induction n with
  | zero =>
    intro v1 v3 h
    rw [X8_digest_L159] at h
    cases h
  | succ n hr159 =>
    intro v1 v3 h
    rw [X8_digest_L159] at h
    refine mm_iload_n 2 dX8_digest_159 rfl rfl (pc' := 160) rfl ?_
    refine mm_aload_n 0 dX8_digest_160 rfl rfl (pc' := 161) rfl ?_
    refine mm_getf fG_X8_7 dX8_digest_161 rfl rfl (pc' := 164) rfl ?_
    refine mm_iconst dX8_digest_164 ki_3 (pc' := 165) rfl ?_
    refine mm_iald dX8_digest_165 rfl ki_3_354 (congrArg _ kt_3) (pc' := 166) rfl ?_
    refine mm_icmp_ge (tgt := 192) dX8_digest_166 (by decide) (pc' := 169) rfl (fun c => ?_) (fun c => ?_)
    · replace h := mm_it h c
      clear c
      refine mm_ldc2 kC_X8_291 dX8_digest_192 (pc' := 195) rfl ?_
      refine mm_lload_n 1 dX8_digest_195 rfl rfl (pc' := 196) rfl ?_
      refine mm_lmul dX8_digest_196 (pc' := 197) rfl ?_
      refine mm_aload_n 0 dX8_digest_197 rfl rfl (pc' := 198) rfl ?_
      refine mm_getf fG_X8_7 dX8_digest_198 rfl rfl (pc' := 201) rfl ?_
      refine mm_iconst dX8_digest_201 ki_5 (pc' := 202) rfl ?_
      refine mm_iald dX8_digest_202 rfl ki_5_354 (congrArg _ kt_5) (pc' := 203) rfl ?_
      refine mm_i2l dX8_digest_203 (pc' := 204) rfl ?_
      refine mm_ladd dX8_digest_204 (pc' := 205) rfl ?_
      refine mm_topl (fun y205 e => ?_)
      replace h := mm_let_of h y205 e
      clear e
      refine mm_lstore_n dX8_digest_205 rfl (by decide) (l' := [(1, .long y205), (0, .ref 0), (3, .int v3)]) rfl (pc' := 206) rfl ?_
      refine mm_iconst dX8_digest_206 ki_0 (pc' := 207) rfl ?_
      refine mm_istore_n dX8_digest_207 rfl (by decide) (l' := [(3, .int (0 : Int32)), (1, .long y205), (0, .ref 0)]) rfl (pc' := 208) rfl ?_
      exact mm_sub [2, 1, 0] rfl (s_X8_digest_L208  _ _ _ h)
    · replace h := mm_if h c
      clear c
      refine mm_ldc2 kC_X8_291 dX8_digest_169 (pc' := 172) rfl ?_
      refine mm_lload_n 1 dX8_digest_172 rfl rfl (pc' := 173) rfl ?_
      refine mm_lmul dX8_digest_173 (pc' := 174) rfl ?_
      refine mm_aload_n 0 dX8_digest_174 rfl rfl (pc' := 175) rfl ?_
      refine mm_getf fG_X8_7 dX8_digest_175 rfl rfl (pc' := 178) rfl ?_
      refine mm_bipush dX8_digest_178 kb_30 (pc' := 180) rfl ?_
      refine mm_iload_n 2 dX8_digest_180 rfl rfl (pc' := 181) rfl ?_
      refine mm_iadd dX8_digest_181 (pc' := 182) rfl ?_
      obtain ⟨x182, c182, e182, h⟩ := mm_rd_of h
      refine mm_iald dX8_digest_182 rfl c182 e182 (pc' := 183) rfl ?_
      clear c182 e182
      refine mm_i2l dX8_digest_183 (pc' := 184) rfl ?_
      refine mm_ladd dX8_digest_184 (pc' := 185) rfl ?_
      refine mm_topl (fun y185 e => ?_)
      replace h := mm_let_of h y185 e
      clear e
      refine mm_lstore_n dX8_digest_185 rfl (by decide) (l' := [(1, .long y185), (0, .ref 0), (3, .int v3)]) rfl (pc' := 186) rfl ?_
      refine mm_iinc 2 dX8_digest_186 rfl ki_1 (by decide) (l' := [(3, .int (v3 + (1 : Int32))), (1, .long y185), (0, .ref 0)]) rfl (pc' := 189) rfl ?_
      refine mm_goto (tgt := 159) dX8_digest_189 (by decide) ?_
      exact mm_sub [2, 1, 0] rfl (hr159 _ _ h)
def X8_digest_J151 (fu : Nat) (rec82 : Int64 → Int32 → Option (Int64)) (q_textSize : Int32) (q_st : Nat → Int32) (v1 : Int64) (v3 : Int32)  : Option (Int64) := rec82 v1 (v3 + (1 : Int32))
set_option maxHeartbeats 4000000 in
set_option maxRecDepth 100000 in
theorem s_X8_digest_J151 {fu : Nat} {q_textSize : Int32} {q_cursor : Int32} {q_start : Int32} {q_token : Int32} {q_number : Int32} {q_word : Int64} {q_fault : Int32} {q_line : Int32} {q_foundPains : Int32} {q_foundLine : Int32} {q_deadMany : Int32} {q_deadSize : Int32} {q_deadLeast : Int32} {q_deadMost : Int32} {q_st : Nat → Int32} {q_before : Nat → Int32} {q_kept : Nat → Int32} {q_isKept : Nat → Int32} {q_refused : Nat → Int32} {q_text : Nat → Int32} {q_ones : Nat → Int32} {q_said : Nat → Int32} {q_readTable : Nat → Int32} {q_least : Nat → Int32} {q_made : Nat → Int32} {q_enough : Nat → Int32} {q_isWanted : Nat → Int32} {q_column : Nat → Int32} {q_foundColumn : Nat → Int32} {q_walls : Nat → Int64} {q_wallMany : Nat → Int32} {q_chosen : Nat → Int32} {r : Int64} {rec82 : Int64 → Int32 → Option (Int64)} {v1 : Int64} {v3 : Int32} (hr82 : ∀ (y1 : Int64) (y3 : Int32), rec82 y1 y3 = some r → mm_Wp mX8_digest (mm_R (P_X8_digest q_textSize q_cursor q_start q_token q_number q_word q_fault q_line q_foundPains q_foundLine q_deadMany q_deadSize q_deadLeast q_deadMost q_st q_before q_kept q_isKept q_refused q_text q_ones q_said q_readTable q_least q_made q_enough q_isWanted q_column q_foundColumn q_walls q_wallMany q_chosen r)) 0 0 82 [(0, .ref 0), (1, .long y1), (3, .int y3)] [] (W_X8 q_textSize q_cursor q_start q_token q_number q_word q_fault q_line q_foundPains q_foundLine q_deadMany q_deadSize q_deadLeast q_deadMost q_st q_before q_kept q_isKept q_refused q_text q_ones q_said q_readTable q_least q_made q_enough q_isWanted q_column q_foundColumn q_walls q_wallMany q_chosen)) (h : X8_digest_J151 fu rec82 q_textSize q_st v1 v3 = some r) : mm_Wp mX8_digest (mm_R (P_X8_digest q_textSize q_cursor q_start q_token q_number q_word q_fault q_line q_foundPains q_foundLine q_deadMany q_deadSize q_deadLeast q_deadMost q_st q_before q_kept q_isKept q_refused q_text q_ones q_said q_readTable q_least q_made q_enough q_isWanted q_column q_foundColumn q_walls q_wallMany q_chosen r)) 0 0 151 [(0, .ref 0), (1, .long v1), (3, .int v3)] [] (W_X8 q_textSize q_cursor q_start q_token q_number q_word q_fault q_line q_foundPains q_foundLine q_deadMany q_deadSize q_deadLeast q_deadMost q_st q_before q_kept q_isKept q_refused q_text q_ones q_said q_readTable q_least q_made q_enough q_isWanted q_column q_foundColumn q_walls q_wallMany q_chosen) := by
  rw [X8_digest_J151] at h
  refine mm_iinc 2 dX8_digest_151 rfl ki_1 (by decide) (l' := [(3, .int (v3 + (1 : Int32))), (0, .ref 0), (1, .long v1)]) rfl (pc' := 154) rfl ?_
  refine mm_goto (tgt := 82) dX8_digest_154 (by decide) ?_
  exact mm_sub [1, 2, 0] rfl (hr82 _ _ h)
def X8_digest_L116 (fu : Nat) (rec82 : Int64 → Int32 → Option (Int64)) (q_textSize : Int32) (q_st : Nat → Int32) (v3 : Int32) : Nat → Int64 → Int32 → Option (Int64)
  | 0, _, _ => none
  | n + 1, v1, v4 => if (4 : Int32) ≤ v4 then (X8_digest_J151 fu rec82 q_textSize q_st v1 v3) else (mm_rd q_st 354 (((96 : Int32) + ((60 : Int32) * v4)) + v3) fun x141 => mm_let (((31 : Int64) * v1) + x141.toInt64) fun y144 => (X8_digest_L116 fu rec82 q_textSize q_st v3 n) y144 (v4 + (1 : Int32)))
set_option maxHeartbeats 4000000 in
set_option maxRecDepth 100000 in
theorem s_X8_digest_L116 {fu : Nat} {q_textSize : Int32} {q_cursor : Int32} {q_start : Int32} {q_token : Int32} {q_number : Int32} {q_word : Int64} {q_fault : Int32} {q_line : Int32} {q_foundPains : Int32} {q_foundLine : Int32} {q_deadMany : Int32} {q_deadSize : Int32} {q_deadLeast : Int32} {q_deadMost : Int32} {q_st : Nat → Int32} {q_before : Nat → Int32} {q_kept : Nat → Int32} {q_isKept : Nat → Int32} {q_refused : Nat → Int32} {q_text : Nat → Int32} {q_ones : Nat → Int32} {q_said : Nat → Int32} {q_readTable : Nat → Int32} {q_least : Nat → Int32} {q_made : Nat → Int32} {q_enough : Nat → Int32} {q_isWanted : Nat → Int32} {q_column : Nat → Int32} {q_foundColumn : Nat → Int32} {q_walls : Nat → Int64} {q_wallMany : Nat → Int32} {q_chosen : Nat → Int32} {r : Int64} {rec82 : Int64 → Int32 → Option (Int64)} {v3 : Int32} (hr82 : ∀ (y1 : Int64) (y3 : Int32), rec82 y1 y3 = some r → mm_Wp mX8_digest (mm_R (P_X8_digest q_textSize q_cursor q_start q_token q_number q_word q_fault q_line q_foundPains q_foundLine q_deadMany q_deadSize q_deadLeast q_deadMost q_st q_before q_kept q_isKept q_refused q_text q_ones q_said q_readTable q_least q_made q_enough q_isWanted q_column q_foundColumn q_walls q_wallMany q_chosen r)) 0 0 82 [(0, .ref 0), (1, .long y1), (3, .int y3)] [] (W_X8 q_textSize q_cursor q_start q_token q_number q_word q_fault q_line q_foundPains q_foundLine q_deadMany q_deadSize q_deadLeast q_deadMost q_st q_before q_kept q_isKept q_refused q_text q_ones q_said q_readTable q_least q_made q_enough q_isWanted q_column q_foundColumn q_walls q_wallMany q_chosen)) : ∀ (n : Nat) (v1 : Int64) (v4 : Int32), X8_digest_L116 fu rec82 q_textSize q_st v3 n v1 v4 = some r → mm_Wp mX8_digest (mm_R (P_X8_digest q_textSize q_cursor q_start q_token q_number q_word q_fault q_line q_foundPains q_foundLine q_deadMany q_deadSize q_deadLeast q_deadMost q_st q_before q_kept q_isKept q_refused q_text q_ones q_said q_readTable q_least q_made q_enough q_isWanted q_column q_foundColumn q_walls q_wallMany q_chosen r)) 0 0 116 [(0, .ref 0), (1, .long v1), (3, .int v3), (4, .int v4)] [] (W_X8 q_textSize q_cursor q_start q_token q_number q_word q_fault q_line q_foundPains q_foundLine q_deadMany q_deadSize q_deadLeast q_deadMost q_st q_before q_kept q_isKept q_refused q_text q_ones q_said q_readTable q_least q_made q_enough q_isWanted q_column q_foundColumn q_walls q_wallMany q_chosen) := by
  intro n
  induction n with
  | zero =>
    intro v1 v4 h
    rw [X8_digest_L116] at h
    cases h
  | succ n hr116 =>
    intro v1 v4 h
    rw [X8_digest_L116] at h
    refine mm_iload 3 dX8_digest_116 rfl (pc' := 118) rfl ?_
    refine mm_iconst dX8_digest_118 ki_4 (pc' := 119) rfl ?_
    refine mm_icmp_ge (tgt := 151) dX8_digest_119 (by decide) (pc' := 122) rfl (fun c => ?_) (fun c => ?_)
    · replace h := mm_it h c
      clear c
      exact mm_sub [0, 1, 2] rfl (s_X8_digest_J151 (hr82 := hr82) h)
    · replace h := mm_if h c
      clear c
      refine mm_ldc2 kC_X8_291 dX8_digest_122 (pc' := 125) rfl ?_
      refine mm_lload_n 1 dX8_digest_125 rfl rfl (pc' := 126) rfl ?_
      refine mm_lmul dX8_digest_126 (pc' := 127) rfl ?_
      refine mm_aload_n 0 dX8_digest_127 rfl rfl (pc' := 128) rfl ?_
      refine mm_getf fG_X8_7 dX8_digest_128 rfl rfl (pc' := 131) rfl ?_
      refine mm_bipush dX8_digest_131 kb_96 (pc' := 133) rfl ?_
      refine mm_bipush dX8_digest_133 kb_60 (pc' := 135) rfl ?_
      refine mm_iload 3 dX8_digest_135 rfl (pc' := 137) rfl ?_
      refine mm_imul dX8_digest_137 (pc' := 138) rfl ?_
      refine mm_iadd dX8_digest_138 (pc' := 139) rfl ?_
      refine mm_iload_n 2 dX8_digest_139 rfl rfl (pc' := 140) rfl ?_
      refine mm_iadd dX8_digest_140 (pc' := 141) rfl ?_
      obtain ⟨x141, c141, e141, h⟩ := mm_rd_of h
      refine mm_iald dX8_digest_141 rfl c141 e141 (pc' := 142) rfl ?_
      clear c141 e141
      refine mm_i2l dX8_digest_142 (pc' := 143) rfl ?_
      refine mm_ladd dX8_digest_143 (pc' := 144) rfl ?_
      refine mm_topl (fun y144 e => ?_)
      replace h := mm_let_of h y144 e
      clear e
      refine mm_lstore_n dX8_digest_144 rfl (by decide) (l' := [(1, .long y144), (0, .ref 0), (3, .int v3), (4, .int v4)]) rfl (pc' := 145) rfl ?_
      refine mm_iinc 3 dX8_digest_145 rfl ki_1 (by decide) (l' := [(4, .int (v4 + (1 : Int32))), (1, .long y144), (0, .ref 0), (3, .int v3)]) rfl (pc' := 148) rfl ?_
      refine mm_goto (tgt := 116) dX8_digest_148 (by decide) ?_
      exact mm_sub [2, 1, 3, 0] rfl (hr116 _ _ h)
def X8_digest_L82 (fu : Nat)  (q_textSize : Int32) (q_st : Nat → Int32)  : Nat → Int64 → Int32 → Option (Int64)
  | 0, _, _ => none
  | n + 1, v1, v3 => if (60 : Int32) ≤ v3 then (X8_digest_L159 fu q_textSize q_st fu v1 (0 : Int32)) else ((f_X8_isWindow fu q_st v3).bind fun t90 => if t90 = 0 then (X8_digest_J151 fu (X8_digest_L82 fu q_textSize q_st n) q_textSize q_st v1 v3) else (mm_rd q_st 354 ((36 : Int32) + v3) fun x109 => mm_let (((31 : Int64) * v1) + x109.toInt64) fun y112 => X8_digest_L116 fu (X8_digest_L82 fu q_textSize q_st n) q_textSize q_st v3 fu y112 (0 : Int32)))
set_option maxHeartbeats 4000000 in
set_option maxRecDepth 100000 in
theorem s_X8_digest_L82 {fu : Nat} {q_textSize : Int32} {q_cursor : Int32} {q_start : Int32} {q_token : Int32} {q_number : Int32} {q_word : Int64} {q_fault : Int32} {q_line : Int32} {q_foundPains : Int32} {q_foundLine : Int32} {q_deadMany : Int32} {q_deadSize : Int32} {q_deadLeast : Int32} {q_deadMost : Int32} {q_st : Nat → Int32} {q_before : Nat → Int32} {q_kept : Nat → Int32} {q_isKept : Nat → Int32} {q_refused : Nat → Int32} {q_text : Nat → Int32} {q_ones : Nat → Int32} {q_said : Nat → Int32} {q_readTable : Nat → Int32} {q_least : Nat → Int32} {q_made : Nat → Int32} {q_enough : Nat → Int32} {q_isWanted : Nat → Int32} {q_column : Nat → Int32} {q_foundColumn : Nat → Int32} {q_walls : Nat → Int64} {q_wallMany : Nat → Int32} {q_chosen : Nat → Int32} {r : Int64} : ∀ (n : Nat) (v1 : Int64) (v3 : Int32), X8_digest_L82 fu q_textSize q_st n v1 v3 = some r → mm_Wp mX8_digest (mm_R (P_X8_digest q_textSize q_cursor q_start q_token q_number q_word q_fault q_line q_foundPains q_foundLine q_deadMany q_deadSize q_deadLeast q_deadMost q_st q_before q_kept q_isKept q_refused q_text q_ones q_said q_readTable q_least q_made q_enough q_isWanted q_column q_foundColumn q_walls q_wallMany q_chosen r)) 0 0 82 [(0, .ref 0), (1, .long v1), (3, .int v3)] [] (W_X8 q_textSize q_cursor q_start q_token q_number q_word q_fault q_line q_foundPains q_foundLine q_deadMany q_deadSize q_deadLeast q_deadMost q_st q_before q_kept q_isKept q_refused q_text q_ones q_said q_readTable q_least q_made q_enough q_isWanted q_column q_foundColumn q_walls q_wallMany q_chosen) := by
  intro n
  induction n with
  | zero =>
    intro v1 v3 h
    rw [X8_digest_L82] at h
    cases h
  | succ n hr82 =>
    intro v1 v3 h
    rw [X8_digest_L82] at h
    refine mm_iload_n 2 dX8_digest_82 rfl rfl (pc' := 83) rfl ?_
    refine mm_bipush dX8_digest_83 kb_60 (pc' := 85) rfl ?_
    refine mm_icmp_ge (tgt := 157) dX8_digest_85 (by decide) (pc' := 88) rfl (fun c => ?_) (fun c => ?_)
    · replace h := mm_it h c
      clear c
      refine mm_iconst dX8_digest_157 ki_0 (pc' := 158) rfl ?_
      refine mm_istore_n dX8_digest_158 rfl (by decide) (l' := [(3, .int (0 : Int32)), (0, .ref 0), (1, .long v1)]) rfl (pc' := 159) rfl ?_
      exact mm_sub [1, 2, 0] rfl (s_X8_digest_L159  _ _ _ h)
    · replace h := mm_if h c
      clear c
      refine mm_aload_n 0 dX8_digest_88 rfl rfl (pc' := 89) rfl ?_
      refine mm_iload_n 2 dX8_digest_89 rfl rfl (pc' := 90) rfl ?_
      obtain ⟨t90, h90, h⟩ := mm_bd h
      refine mm_call0 (As := [.int v3]) (rest := []) cV_X8_78 (ok_X8_isWindow h90) ⟨rfl, rfl, Nat.le_of_ble_eq_true rfl, Nat.le_of_ble_eq_true rfl⟩ dX8_digest_90 rfl rfl rfl rfl (by rintro _ _ ⟨-, rfl⟩; rfl) (Nat.le_of_ble_eq_true rfl) ⟨Nat.le_of_ble_eq_true rfl, Nat.le_of_ble_eq_true rfl⟩ (pc' := 93) rfl ?_
      rintro rv w ⟨rfl, rfl⟩
      show mm_Wp _ _ _ _ 93 [(0, .ref 0), (1, .long v1), (3, .int v3)] [.int t90] (W_X8 q_textSize q_cursor q_start q_token q_number q_word q_fault q_line q_foundPains q_foundLine q_deadMany q_deadSize q_deadLeast q_deadMost q_st q_before q_kept q_isKept q_refused q_text q_ones q_said q_readTable q_least q_made q_enough q_isWanted q_column q_foundColumn q_walls q_wallMany q_chosen)
      clear h90
      refine mm_if_eq (tgt := 151) dX8_digest_93 (by decide) (pc' := 96) rfl (fun c => ?_) (fun c => ?_)
      · replace h := mm_it h c
        clear c
        exact s_X8_digest_J151 (hr82 := hr82) h
      · replace h := mm_if h c
        clear c
        refine mm_ldc2 kC_X8_291 dX8_digest_96 (pc' := 99) rfl ?_
        refine mm_lload_n 1 dX8_digest_99 rfl rfl (pc' := 100) rfl ?_
        refine mm_lmul dX8_digest_100 (pc' := 101) rfl ?_
        refine mm_aload_n 0 dX8_digest_101 rfl rfl (pc' := 102) rfl ?_
        refine mm_getf fG_X8_7 dX8_digest_102 rfl rfl (pc' := 105) rfl ?_
        refine mm_bipush dX8_digest_105 kb_36 (pc' := 107) rfl ?_
        refine mm_iload_n 2 dX8_digest_107 rfl rfl (pc' := 108) rfl ?_
        refine mm_iadd dX8_digest_108 (pc' := 109) rfl ?_
        obtain ⟨x109, c109, e109, h⟩ := mm_rd_of h
        refine mm_iald dX8_digest_109 rfl c109 e109 (pc' := 110) rfl ?_
        clear c109 e109
        refine mm_i2l dX8_digest_110 (pc' := 111) rfl ?_
        refine mm_ladd dX8_digest_111 (pc' := 112) rfl ?_
        refine mm_topl (fun y112 e => ?_)
        replace h := mm_let_of h y112 e
        clear e
        refine mm_lstore_n dX8_digest_112 rfl (by decide) (l' := [(1, .long y112), (0, .ref 0), (3, .int v3)]) rfl (pc' := 113) rfl ?_
        refine mm_iconst dX8_digest_113 ki_0 (pc' := 114) rfl ?_
        refine mm_istore dX8_digest_114 (by decide) (l' := [(4, .int (0 : Int32)), (1, .long y112), (0, .ref 0), (3, .int v3)]) rfl (pc' := 116) rfl ?_
        exact mm_sub [2, 1, 3, 0] rfl (s_X8_digest_L116 (hr82 := hr82) _ _ _ h)
def X8_digest_L45 (fu : Nat)  (q_textSize : Int32) (q_st : Nat → Int32)  : Nat → Int64 → Int32 → Option (Int64)
  | 0, _, _ => none
  | n + 1, v1, v3 => if ((4 : Int32) * (q_st 2)) ≤ v3 then (X8_digest_L82 fu q_textSize q_st fu v1 (0 : Int32)) else (mm_rd q_st 354 ((6 : Int32) + v3) fun x70 => mm_let (((31 : Int64) * v1) + x70.toInt64) fun y73 => (X8_digest_L45 fu q_textSize q_st n) y73 (v3 + (1 : Int32)))
set_option maxHeartbeats 4000000 in
set_option maxRecDepth 100000 in
theorem s_X8_digest_L45 {fu : Nat} {q_textSize : Int32} {q_cursor : Int32} {q_start : Int32} {q_token : Int32} {q_number : Int32} {q_word : Int64} {q_fault : Int32} {q_line : Int32} {q_foundPains : Int32} {q_foundLine : Int32} {q_deadMany : Int32} {q_deadSize : Int32} {q_deadLeast : Int32} {q_deadMost : Int32} {q_st : Nat → Int32} {q_before : Nat → Int32} {q_kept : Nat → Int32} {q_isKept : Nat → Int32} {q_refused : Nat → Int32} {q_text : Nat → Int32} {q_ones : Nat → Int32} {q_said : Nat → Int32} {q_readTable : Nat → Int32} {q_least : Nat → Int32} {q_made : Nat → Int32} {q_enough : Nat → Int32} {q_isWanted : Nat → Int32} {q_column : Nat → Int32} {q_foundColumn : Nat → Int32} {q_walls : Nat → Int64} {q_wallMany : Nat → Int32} {q_chosen : Nat → Int32} {r : Int64} : ∀ (n : Nat) (v1 : Int64) (v3 : Int32), X8_digest_L45 fu q_textSize q_st n v1 v3 = some r → mm_Wp mX8_digest (mm_R (P_X8_digest q_textSize q_cursor q_start q_token q_number q_word q_fault q_line q_foundPains q_foundLine q_deadMany q_deadSize q_deadLeast q_deadMost q_st q_before q_kept q_isKept q_refused q_text q_ones q_said q_readTable q_least q_made q_enough q_isWanted q_column q_foundColumn q_walls q_wallMany q_chosen r)) 0 0 45 [(0, .ref 0), (1, .long v1), (3, .int v3)] [] (W_X8 q_textSize q_cursor q_start q_token q_number q_word q_fault q_line q_foundPains q_foundLine q_deadMany q_deadSize q_deadLeast q_deadMost q_st q_before q_kept q_isKept q_refused q_text q_ones q_said q_readTable q_least q_made q_enough q_isWanted q_column q_foundColumn q_walls q_wallMany q_chosen) := by
  intro n
  induction n with
  | zero =>
    intro v1 v3 h
    rw [X8_digest_L45] at h
    cases h
  | succ n hr45 =>
    intro v1 v3 h
    rw [X8_digest_L45] at h
    refine mm_iload_n 2 dX8_digest_45 rfl rfl (pc' := 46) rfl ?_
    refine mm_iconst dX8_digest_46 ki_4 (pc' := 47) rfl ?_
    refine mm_aload_n 0 dX8_digest_47 rfl rfl (pc' := 48) rfl ?_
    refine mm_getf fG_X8_7 dX8_digest_48 rfl rfl (pc' := 51) rfl ?_
    refine mm_iconst dX8_digest_51 ki_2 (pc' := 52) rfl ?_
    refine mm_iald dX8_digest_52 rfl ki_2_354 (congrArg _ kt_2) (pc' := 53) rfl ?_
    refine mm_imul dX8_digest_53 (pc' := 54) rfl ?_
    refine mm_icmp_ge (tgt := 80) dX8_digest_54 (by decide) (pc' := 57) rfl (fun c => ?_) (fun c => ?_)
    · replace h := mm_it h c
      clear c
      refine mm_iconst dX8_digest_80 ki_0 (pc' := 81) rfl ?_
      refine mm_istore_n dX8_digest_81 rfl (by decide) (l' := [(3, .int (0 : Int32)), (0, .ref 0), (1, .long v1)]) rfl (pc' := 82) rfl ?_
      exact mm_sub [1, 2, 0] rfl (s_X8_digest_L82  _ _ _ h)
    · replace h := mm_if h c
      clear c
      refine mm_ldc2 kC_X8_291 dX8_digest_57 (pc' := 60) rfl ?_
      refine mm_lload_n 1 dX8_digest_60 rfl rfl (pc' := 61) rfl ?_
      refine mm_lmul dX8_digest_61 (pc' := 62) rfl ?_
      refine mm_aload_n 0 dX8_digest_62 rfl rfl (pc' := 63) rfl ?_
      refine mm_getf fG_X8_7 dX8_digest_63 rfl rfl (pc' := 66) rfl ?_
      refine mm_bipush dX8_digest_66 kb_6 (pc' := 68) rfl ?_
      refine mm_iload_n 2 dX8_digest_68 rfl rfl (pc' := 69) rfl ?_
      refine mm_iadd dX8_digest_69 (pc' := 70) rfl ?_
      obtain ⟨x70, c70, e70, h⟩ := mm_rd_of h
      refine mm_iald dX8_digest_70 rfl c70 e70 (pc' := 71) rfl ?_
      clear c70 e70
      refine mm_i2l dX8_digest_71 (pc' := 72) rfl ?_
      refine mm_ladd dX8_digest_72 (pc' := 73) rfl ?_
      refine mm_topl (fun y73 e => ?_)
      replace h := mm_let_of h y73 e
      clear e
      refine mm_lstore_n dX8_digest_73 rfl (by decide) (l' := [(1, .long y73), (0, .ref 0), (3, .int v3)]) rfl (pc' := 74) rfl ?_
      refine mm_iinc 2 dX8_digest_74 rfl ki_1 (by decide) (l' := [(3, .int (v3 + (1 : Int32))), (1, .long y73), (0, .ref 0)]) rfl (pc' := 77) rfl ?_
      refine mm_goto (tgt := 45) dX8_digest_77 (by decide) ?_
      exact mm_sub [2, 1, 0] rfl (hr45 _ _ h)
def X8_digest_L6 (fu : Nat)  (q_textSize : Int32) (q_st : Nat → Int32)  : Nat → Int64 → Int32 → Option (Int64)
  | 0, _, _ => none
  | n + 1, v1, v3 => if (5 : Int32) ≤ v3 then (mm_let (((31 : Int64) * v1) + q_textSize.toInt64) fun y42 => X8_digest_L45 fu q_textSize q_st fu y42 (0 : Int32)) else (mm_rd q_st 354 v3 fun x21 => mm_let (((31 : Int64) * v1) + x21.toInt64) fun y24 => (X8_digest_L6 fu q_textSize q_st n) y24 (v3 + (1 : Int32)))
set_option maxHeartbeats 4000000 in
set_option maxRecDepth 100000 in
theorem s_X8_digest_L6 {fu : Nat} {q_textSize : Int32} {q_cursor : Int32} {q_start : Int32} {q_token : Int32} {q_number : Int32} {q_word : Int64} {q_fault : Int32} {q_line : Int32} {q_foundPains : Int32} {q_foundLine : Int32} {q_deadMany : Int32} {q_deadSize : Int32} {q_deadLeast : Int32} {q_deadMost : Int32} {q_st : Nat → Int32} {q_before : Nat → Int32} {q_kept : Nat → Int32} {q_isKept : Nat → Int32} {q_refused : Nat → Int32} {q_text : Nat → Int32} {q_ones : Nat → Int32} {q_said : Nat → Int32} {q_readTable : Nat → Int32} {q_least : Nat → Int32} {q_made : Nat → Int32} {q_enough : Nat → Int32} {q_isWanted : Nat → Int32} {q_column : Nat → Int32} {q_foundColumn : Nat → Int32} {q_walls : Nat → Int64} {q_wallMany : Nat → Int32} {q_chosen : Nat → Int32} {r : Int64} : ∀ (n : Nat) (v1 : Int64) (v3 : Int32), X8_digest_L6 fu q_textSize q_st n v1 v3 = some r → mm_Wp mX8_digest (mm_R (P_X8_digest q_textSize q_cursor q_start q_token q_number q_word q_fault q_line q_foundPains q_foundLine q_deadMany q_deadSize q_deadLeast q_deadMost q_st q_before q_kept q_isKept q_refused q_text q_ones q_said q_readTable q_least q_made q_enough q_isWanted q_column q_foundColumn q_walls q_wallMany q_chosen r)) 0 0 6 [(0, .ref 0), (1, .long v1), (3, .int v3)] [] (W_X8 q_textSize q_cursor q_start q_token q_number q_word q_fault q_line q_foundPains q_foundLine q_deadMany q_deadSize q_deadLeast q_deadMost q_st q_before q_kept q_isKept q_refused q_text q_ones q_said q_readTable q_least q_made q_enough q_isWanted q_column q_foundColumn q_walls q_wallMany q_chosen) := by
  intro n
  induction n with
  | zero =>
    intro v1 v3 h
    rw [X8_digest_L6] at h
    cases h
  | succ n hr6 =>
    intro v1 v3 h
    rw [X8_digest_L6] at h
    refine mm_iload_n 2 dX8_digest_6 rfl rfl (pc' := 7) rfl ?_
    refine mm_iconst dX8_digest_7 ki_5 (pc' := 8) rfl ?_
    refine mm_icmp_ge (tgt := 31) dX8_digest_8 (by decide) (pc' := 11) rfl (fun c => ?_) (fun c => ?_)
    · replace h := mm_it h c
      clear c
      refine mm_ldc2 kC_X8_291 dX8_digest_31 (pc' := 34) rfl ?_
      refine mm_lload_n 1 dX8_digest_34 rfl rfl (pc' := 35) rfl ?_
      refine mm_lmul dX8_digest_35 (pc' := 36) rfl ?_
      refine mm_aload_n 0 dX8_digest_36 rfl rfl (pc' := 37) rfl ?_
      refine mm_getf fG_X8_121 dX8_digest_37 rfl rfl (pc' := 40) rfl ?_
      refine mm_i2l dX8_digest_40 (pc' := 41) rfl ?_
      refine mm_ladd dX8_digest_41 (pc' := 42) rfl ?_
      refine mm_topl (fun y42 e => ?_)
      replace h := mm_let_of h y42 e
      clear e
      refine mm_lstore_n dX8_digest_42 rfl (by decide) (l' := [(1, .long y42), (0, .ref 0), (3, .int v3)]) rfl (pc' := 43) rfl ?_
      refine mm_iconst dX8_digest_43 ki_0 (pc' := 44) rfl ?_
      refine mm_istore_n dX8_digest_44 rfl (by decide) (l' := [(3, .int (0 : Int32)), (1, .long y42), (0, .ref 0)]) rfl (pc' := 45) rfl ?_
      exact mm_sub [2, 1, 0] rfl (s_X8_digest_L45  _ _ _ h)
    · replace h := mm_if h c
      clear c
      refine mm_ldc2 kC_X8_291 dX8_digest_11 (pc' := 14) rfl ?_
      refine mm_lload_n 1 dX8_digest_14 rfl rfl (pc' := 15) rfl ?_
      refine mm_lmul dX8_digest_15 (pc' := 16) rfl ?_
      refine mm_aload_n 0 dX8_digest_16 rfl rfl (pc' := 17) rfl ?_
      refine mm_getf fG_X8_7 dX8_digest_17 rfl rfl (pc' := 20) rfl ?_
      refine mm_iload_n 2 dX8_digest_20 rfl rfl (pc' := 21) rfl ?_
      obtain ⟨x21, c21, e21, h⟩ := mm_rd_of h
      refine mm_iald dX8_digest_21 rfl c21 e21 (pc' := 22) rfl ?_
      clear c21 e21
      refine mm_i2l dX8_digest_22 (pc' := 23) rfl ?_
      refine mm_ladd dX8_digest_23 (pc' := 24) rfl ?_
      refine mm_topl (fun y24 e => ?_)
      replace h := mm_let_of h y24 e
      clear e
      refine mm_lstore_n dX8_digest_24 rfl (by decide) (l' := [(1, .long y24), (0, .ref 0), (3, .int v3)]) rfl (pc' := 25) rfl ?_
      refine mm_iinc 2 dX8_digest_25 rfl ki_1 (by decide) (l' := [(3, .int (v3 + (1 : Int32))), (1, .long y24), (0, .ref 0)]) rfl (pc' := 28) rfl ?_
      refine mm_goto (tgt := 6) dX8_digest_28 (by decide) ?_
      exact mm_sub [2, 1, 0] rfl (hr6 _ _ h)
def f_X8_digest (fu : Nat) (q_textSize : Int32) (q_st : Nat → Int32) : Option (Int64) := X8_digest_L6 fu q_textSize q_st fu (673 : Int64) (0 : Int32)
set_option maxHeartbeats 4000000 in
set_option maxRecDepth 100000 in
theorem ok_X8_digest {fu : Nat} {q_textSize : Int32} {q_cursor : Int32} {q_start : Int32} {q_token : Int32} {q_number : Int32} {q_word : Int64} {q_fault : Int32} {q_line : Int32} {q_foundPains : Int32} {q_foundLine : Int32} {q_deadMany : Int32} {q_deadSize : Int32} {q_deadLeast : Int32} {q_deadMost : Int32} {q_st : Nat → Int32} {q_before : Nat → Int32} {q_kept : Nat → Int32} {q_isKept : Nat → Int32} {q_refused : Nat → Int32} {q_text : Nat → Int32} {q_ones : Nat → Int32} {q_said : Nat → Int32} {q_readTable : Nat → Int32} {q_least : Nat → Int32} {q_made : Nat → Int32} {q_enough : Nat → Int32} {q_isWanted : Nat → Int32} {q_column : Nat → Int32} {q_foundColumn : Nat → Int32} {q_walls : Nat → Int64} {q_wallMany : Nat → Int32} {q_chosen : Nat → Int32} {r : Int64} (h : f_X8_digest fu q_textSize q_st = some r) : mm_Ok mX8_digest [.ref 0] (W_X8 q_textSize q_cursor q_start q_token q_number q_word q_fault q_line q_foundPains q_foundLine q_deadMany q_deadSize q_deadLeast q_deadMost q_st q_before q_kept q_isKept q_refused q_text q_ones q_said q_readTable q_least q_made q_enough q_isWanted q_column q_foundColumn q_walls q_wallMany q_chosen) (P_X8_digest q_textSize q_cursor q_start q_token q_number q_word q_fault q_line q_foundPains q_foundLine q_deadMany q_deadSize q_deadLeast q_deadMost q_st q_before q_kept q_isKept q_refused q_text q_ones q_said q_readTable q_least q_made q_enough q_isWanted q_column q_foundColumn q_walls q_wallMany q_chosen r) := by
  rw [f_X8_digest] at h
  refine mm_Ok.of pn_X8 (l := [(0, .ref 0)]) rfl (Nat.le_of_ble_eq_true rfl) ?_
  refine mm_ldc2 kC_X8_289 dX8_digest_0 (pc' := 3) rfl ?_
  refine mm_lstore_n dX8_digest_3 rfl (by decide) (l' := [(1, .long (673 : Int64)), (0, .ref 0)]) rfl (pc' := 4) rfl ?_
  refine mm_iconst dX8_digest_4 ki_0 (pc' := 5) rfl ?_
  refine mm_istore_n dX8_digest_5 rfl (by decide) (l' := [(3, .int (0 : Int32)), (1, .long (673 : Int64)), (0, .ref 0)]) rfl (pc' := 6) rfl ?_
  exact mm_sub [2, 1, 0] rfl (s_X8_digest_L6  _ _ _ h)
