def W_X5 (q_wide : Int32) (q_high : Int32) (q_slackNow : Int32) (q_tenants : Int32) (q_letters : Int32) (q_readings : Int32) (q_kinds : Nat → Int32) (q_painOf : Nat → Int32) (q_payFor : Nat → Int32) (q_refused : Nat → Int32) (q_owned : Nat → Int64) (q_litIn : Nat → Int64) (q_shapes : Nat → Int32) (q_readAt : Nat → Int32) (q_meant : Nat → Int32) (q_readSo : Nat → Int32) : mm_W := [.inr (5, [.int q_wide, .int q_high, .int q_slackNow, .int q_tenants, .int q_letters, .int q_readings, .ref 1, .ref 2, .ref 3, .ref 4, .ref 5, .ref 6, .ref 7, .ref 8, .ref 9, .ref 10]),
  .inl (0, 6, .inl q_kinds),
  .inl (0, 6, .inl q_painOf),
  .inl (0, 6, .inl q_payFor),
  .inl (0, 6, .inl q_refused),
  .inl (1, 6, .inr (.inl q_owned)),
  .inl (1, 4, .inr (.inl q_litIn)),
  .inl (0, 6, .inl q_shapes),
  .inl (0, 6, .inl q_readAt),
  .inl (0, 6, .inl q_meant),
  .inl (0, 6, .inl q_readSo)]
def W_X0_X5 (q_sets : Int32) (q_size : Int32) (q_least : Int32) (q_greatest : Int32) (q_windows : Nat → Int32) (q_shown : Nat → Int64) (q_soWithout : Nat → Int32) (u_wide : Int32) (u_high : Int32) (u_slackNow : Int32) (u_tenants : Int32) (u_letters : Int32) (u_readings : Int32) (u_kinds : Nat → Int32) (u_painOf : Nat → Int32) (u_payFor : Nat → Int32) (u_refused : Nat → Int32) (u_owned : Nat → Int64) (u_litIn : Nat → Int64) (u_shapes : Nat → Int32) (u_readAt : Nat → Int32) (u_meant : Nat → Int32) (u_readSo : Nat → Int32) : mm_W := [.inr (0, [.int q_sets, .int q_size, .int q_least, .int q_greatest, .ref 1, .ref 2, .ref 3]),
  .inl (0, 60, .inl q_windows),
  .inl (1, 6, .inr (.inl q_shown)),
  .inl (2, 6, .inl q_soWithout),
  .inr (5, [.int u_wide, .int u_high, .int u_slackNow, .int u_tenants, .int u_letters, .int u_readings, .ref 5, .ref 6, .ref 7, .ref 8, .ref 9, .ref 10, .ref 11, .ref 12, .ref 13, .ref 14]),
  .inl (0, 6, .inl u_kinds),
  .inl (0, 6, .inl u_painOf),
  .inl (0, 6, .inl u_payFor),
  .inl (0, 6, .inl u_refused),
  .inl (1, 6, .inr (.inl u_owned)),
  .inl (1, 4, .inr (.inl u_litIn)),
  .inl (0, 6, .inl u_shapes),
  .inl (0, 6, .inl u_readAt),
  .inl (0, 6, .inl u_meant),
  .inl (0, 6, .inl u_readSo)]
def W_X1 (q_pains : Int32) (q_windows : Nat → Int32) (q_shapes : Nat → Int32) (q_places_y : Int32) (q_places_boxes : Int32) (q_places_lastColumn : Int32) (q_places_lastTop : Int32) (q_places_columns : Nat → Int32) (q_deviations : Nat → Int32) (q_painsOfCell : Nat → Int32) (q_painsAt_0 : Nat → Int32) (q_painsAt_1 : Nat → Int32) (q_painsAt_2 : Nat → Int32) (q_shapeAt_0 : Nat → Int32) (q_shapeAt_1 : Nat → Int32) (q_shapeAt_2 : Nat → Int32) : mm_W := [.inr (1, [.int q_pains, .ref 1, .ref 2, .ref 3, .ref 5, .ref 6, .ref 7, .ref 11]),
  .inl (0, 3, .inl q_windows),
  .inl (0, 3, .inl q_shapes),
  .inr (3, [.ref 4, .int q_places_y, .int q_places_boxes, .int q_places_lastColumn, .int q_places_lastTop]),
  .inl (0, 3, .inl q_places_columns),
  .inl (0, 299, .inl q_deviations),
  .inl (0, 12, .inl q_painsOfCell),
  .inl (3, 3, .inr (.inr (.inr (.inr (fun j => some (8 + j)))))),
  .inl (0, 60, .inl q_painsAt_0),
  .inl (0, 60, .inl q_painsAt_1),
  .inl (0, 60, .inl q_painsAt_2),
  .inl (3, 3, .inr (.inr (.inr (.inr (fun j => some (12 + j)))))),
  .inl (0, 60, .inl q_shapeAt_0),
  .inl (0, 60, .inl q_shapeAt_1),
  .inl (0, 60, .inl q_shapeAt_2)]
def W_X3 (q_y : Int32) (q_boxes : Int32) (q_lastColumn : Int32) (q_lastTop : Int32) (q_columns : Nat → Int32) : mm_W := [.inr (3, [.ref 1, .int q_y, .int q_boxes, .int q_lastColumn, .int q_lastTop]),
  .inl (0, 3, .inl q_columns)]
def W_X3_X5 (q_y : Int32) (q_boxes : Int32) (q_lastColumn : Int32) (q_lastTop : Int32) (q_columns : Nat → Int32) (u_wide : Int32) (u_high : Int32) (u_slackNow : Int32) (u_tenants : Int32) (u_letters : Int32) (u_readings : Int32) (u_kinds : Nat → Int32) (u_painOf : Nat → Int32) (u_payFor : Nat → Int32) (u_refused : Nat → Int32) (u_owned : Nat → Int64) (u_litIn : Nat → Int64) (u_shapes : Nat → Int32) (u_readAt : Nat → Int32) (u_meant : Nat → Int32) (u_readSo : Nat → Int32) : mm_W := [.inr (3, [.ref 1, .int q_y, .int q_boxes, .int q_lastColumn, .int q_lastTop]),
  .inl (0, 3, .inl q_columns),
  .inr (5, [.int u_wide, .int u_high, .int u_slackNow, .int u_tenants, .int u_letters, .int u_readings, .ref 3, .ref 4, .ref 5, .ref 6, .ref 7, .ref 8, .ref 9, .ref 10, .ref 11, .ref 12]),
  .inl (0, 6, .inl u_kinds),
  .inl (0, 6, .inl u_painOf),
  .inl (0, 6, .inl u_payFor),
  .inl (0, 6, .inl u_refused),
  .inl (1, 6, .inr (.inl u_owned)),
  .inl (1, 4, .inr (.inl u_litIn)),
  .inl (0, 6, .inl u_shapes),
  .inl (0, 6, .inl u_readAt),
  .inl (0, 6, .inl u_meant),
  .inl (0, 6, .inl u_readSo)]
def W_X1_X5_X6 (q_pains : Int32) (q_windows : Nat → Int32) (q_shapes : Nat → Int32) (q_places_y : Int32) (q_places_boxes : Int32) (q_places_lastColumn : Int32) (q_places_lastTop : Int32) (q_places_columns : Nat → Int32) (q_deviations : Nat → Int32) (q_painsOfCell : Nat → Int32) (q_painsAt_0 : Nat → Int32) (q_painsAt_1 : Nat → Int32) (q_painsAt_2 : Nat → Int32) (q_shapeAt_0 : Nat → Int32) (q_shapeAt_1 : Nat → Int32) (q_shapeAt_2 : Nat → Int32) (u_wide : Int32) (u_high : Int32) (u_slackNow : Int32) (u_tenants : Int32) (u_letters : Int32) (u_readings : Int32) (u_kinds : Nat → Int32) (u_painOf : Nat → Int32) (u_payFor : Nat → Int32) (u_refused : Nat → Int32) (u_owned : Nat → Int64) (u_litIn : Nat → Int64) (u_shapes : Nat → Int32) (u_readAt : Nat → Int32) (u_meant : Nat → Int32) (u_readSo : Nat → Int32) (w_length : Int32) (w_bits : Int32) (w_letters : Nat → Int32) : mm_W := [.inr (1, [.int q_pains, .ref 1, .ref 2, .ref 3, .ref 5, .ref 6, .ref 7, .ref 11]),
  .inl (0, 3, .inl q_windows),
  .inl (0, 3, .inl q_shapes),
  .inr (3, [.ref 4, .int q_places_y, .int q_places_boxes, .int q_places_lastColumn, .int q_places_lastTop]),
  .inl (0, 3, .inl q_places_columns),
  .inl (0, 299, .inl q_deviations),
  .inl (0, 12, .inl q_painsOfCell),
  .inl (3, 3, .inr (.inr (.inr (.inr (fun j => some (8 + j)))))),
  .inl (0, 60, .inl q_painsAt_0),
  .inl (0, 60, .inl q_painsAt_1),
  .inl (0, 60, .inl q_painsAt_2),
  .inl (3, 3, .inr (.inr (.inr (.inr (fun j => some (12 + j)))))),
  .inl (0, 60, .inl q_shapeAt_0),
  .inl (0, 60, .inl q_shapeAt_1),
  .inl (0, 60, .inl q_shapeAt_2),
  .inr (5, [.int u_wide, .int u_high, .int u_slackNow, .int u_tenants, .int u_letters, .int u_readings, .ref 16, .ref 17, .ref 18, .ref 19, .ref 20, .ref 21, .ref 22, .ref 23, .ref 24, .ref 25]),
  .inl (0, 6, .inl u_kinds),
  .inl (0, 6, .inl u_painOf),
  .inl (0, 6, .inl u_payFor),
  .inl (0, 6, .inl u_refused),
  .inl (1, 6, .inr (.inl u_owned)),
  .inl (1, 4, .inr (.inl u_litIn)),
  .inl (0, 6, .inl u_shapes),
  .inl (0, 6, .inl u_readAt),
  .inl (0, 6, .inl u_meant),
  .inl (0, 6, .inl u_readSo),
  .inr (6, [.ref 27, .int w_length, .int w_bits]),
  .inl (0, 3, .inl w_letters)]
def W_X2_X5_X6 (q_known : Int32) (q_lights : Nat → Int64) (q_places_y : Int32) (q_places_boxes : Int32) (q_places_lastColumn : Int32) (q_places_lastTop : Int32) (q_places_columns : Nat → Int32) (u_wide : Int32) (u_high : Int32) (u_slackNow : Int32) (u_tenants : Int32) (u_letters : Int32) (u_readings : Int32) (u_kinds : Nat → Int32) (u_painOf : Nat → Int32) (u_payFor : Nat → Int32) (u_refused : Nat → Int32) (u_owned : Nat → Int64) (u_litIn : Nat → Int64) (u_shapes : Nat → Int32) (u_readAt : Nat → Int32) (u_meant : Nat → Int32) (u_readSo : Nat → Int32) (w_length : Int32) (w_bits : Int32) (w_letters : Nat → Int32) : mm_W := [.inr (2, [.ref 1, .int q_known, .ref 2]),
  .inl (1, 42, .inr (.inl q_lights)),
  .inr (3, [.ref 3, .int q_places_y, .int q_places_boxes, .int q_places_lastColumn, .int q_places_lastTop]),
  .inl (0, 3, .inl q_places_columns),
  .inr (5, [.int u_wide, .int u_high, .int u_slackNow, .int u_tenants, .int u_letters, .int u_readings, .ref 5, .ref 6, .ref 7, .ref 8, .ref 9, .ref 10, .ref 11, .ref 12, .ref 13, .ref 14]),
  .inl (0, 6, .inl u_kinds),
  .inl (0, 6, .inl u_painOf),
  .inl (0, 6, .inl u_payFor),
  .inl (0, 6, .inl u_refused),
  .inl (1, 6, .inr (.inl u_owned)),
  .inl (1, 4, .inr (.inl u_litIn)),
  .inl (0, 6, .inl u_shapes),
  .inl (0, 6, .inl u_readAt),
  .inl (0, 6, .inl u_meant),
  .inl (0, 6, .inl u_readSo),
  .inr (6, [.ref 16, .int w_length, .int w_bits]),
  .inl (0, 3, .inl w_letters)]
def W_X2_X2 (q_known : Int32) (q_lights : Nat → Int64) (q_places_y : Int32) (q_places_boxes : Int32) (q_places_lastColumn : Int32) (q_places_lastTop : Int32) (q_places_columns : Nat → Int32) (u_known : Int32) (u_lights : Nat → Int64) (u_places_y : Int32) (u_places_boxes : Int32) (u_places_lastColumn : Int32) (u_places_lastTop : Int32) (u_places_columns : Nat → Int32) : mm_W := [.inr (2, [.ref 1, .int q_known, .ref 2]),
  .inl (1, 42, .inr (.inl q_lights)),
  .inr (3, [.ref 3, .int q_places_y, .int q_places_boxes, .int q_places_lastColumn, .int q_places_lastTop]),
  .inl (0, 3, .inl q_places_columns),
  .inr (2, [.ref 5, .int u_known, .ref 6]),
  .inl (1, 42, .inr (.inl u_lights)),
  .inr (3, [.ref 7, .int u_places_y, .int u_places_boxes, .int u_places_lastColumn, .int u_places_lastTop]),
  .inl (0, 3, .inl u_places_columns)]
def W_X4 (q_length : Int32) (q_items : Int32) (q_place : Int32) (q_token : Int32) (q_tokenAt : Int32) (q_tokenValue : Int32) (q_bytes : Nat → Int32) (q_words : Nat → Int32) (q_numbers : Nat → Int32) : mm_W := [.inr (4, [.int q_length, .int q_items, .ref 1, .ref 2, .ref 3, .int q_place, .int q_token, .int q_tokenAt, .int q_tokenValue]),
  .inl (0, 200, .inl q_bytes),
  .inl (0, 100, .inl q_words),
  .inl (0, 300, .inl q_numbers)]
def W_X4_X5 (q_length : Int32) (q_items : Int32) (q_place : Int32) (q_token : Int32) (q_tokenAt : Int32) (q_tokenValue : Int32) (q_bytes : Nat → Int32) (q_words : Nat → Int32) (q_numbers : Nat → Int32) (u_wide : Int32) (u_high : Int32) (u_slackNow : Int32) (u_tenants : Int32) (u_letters : Int32) (u_readings : Int32) (u_kinds : Nat → Int32) (u_painOf : Nat → Int32) (u_payFor : Nat → Int32) (u_refused : Nat → Int32) (u_owned : Nat → Int64) (u_litIn : Nat → Int64) (u_shapes : Nat → Int32) (u_readAt : Nat → Int32) (u_meant : Nat → Int32) (u_readSo : Nat → Int32) : mm_W := [.inr (4, [.int q_length, .int q_items, .ref 1, .ref 2, .ref 3, .int q_place, .int q_token, .int q_tokenAt, .int q_tokenValue]),
  .inl (0, 200, .inl q_bytes),
  .inl (0, 100, .inl q_words),
  .inl (0, 300, .inl q_numbers),
  .inr (5, [.int u_wide, .int u_high, .int u_slackNow, .int u_tenants, .int u_letters, .int u_readings, .ref 5, .ref 6, .ref 7, .ref 8, .ref 9, .ref 10, .ref 11, .ref 12, .ref 13, .ref 14]),
  .inl (0, 6, .inl u_kinds),
  .inl (0, 6, .inl u_painOf),
  .inl (0, 6, .inl u_payFor),
  .inl (0, 6, .inl u_refused),
  .inl (1, 6, .inr (.inl u_owned)),
  .inl (1, 4, .inr (.inl u_litIn)),
  .inl (0, 6, .inl u_shapes),
  .inl (0, 6, .inl u_readAt),
  .inl (0, 6, .inl u_meant),
  .inl (0, 6, .inl u_readSo)]
def W_X5_X5 (q_wide : Int32) (q_high : Int32) (q_slackNow : Int32) (q_tenants : Int32) (q_letters : Int32) (q_readings : Int32) (q_kinds : Nat → Int32) (q_painOf : Nat → Int32) (q_payFor : Nat → Int32) (q_refused : Nat → Int32) (q_owned : Nat → Int64) (q_litIn : Nat → Int64) (q_shapes : Nat → Int32) (q_readAt : Nat → Int32) (q_meant : Nat → Int32) (q_readSo : Nat → Int32) (u_wide : Int32) (u_high : Int32) (u_slackNow : Int32) (u_tenants : Int32) (u_letters : Int32) (u_readings : Int32) (u_kinds : Nat → Int32) (u_painOf : Nat → Int32) (u_payFor : Nat → Int32) (u_refused : Nat → Int32) (u_owned : Nat → Int64) (u_litIn : Nat → Int64) (u_shapes : Nat → Int32) (u_readAt : Nat → Int32) (u_meant : Nat → Int32) (u_readSo : Nat → Int32) : mm_W := [.inr (5, [.int q_wide, .int q_high, .int q_slackNow, .int q_tenants, .int q_letters, .int q_readings, .ref 1, .ref 2, .ref 3, .ref 4, .ref 5, .ref 6, .ref 7, .ref 8, .ref 9, .ref 10]),
  .inl (0, 6, .inl q_kinds),
  .inl (0, 6, .inl q_painOf),
  .inl (0, 6, .inl q_payFor),
  .inl (0, 6, .inl q_refused),
  .inl (1, 6, .inr (.inl q_owned)),
  .inl (1, 4, .inr (.inl q_litIn)),
  .inl (0, 6, .inl q_shapes),
  .inl (0, 6, .inl q_readAt),
  .inl (0, 6, .inl q_meant),
  .inl (0, 6, .inl q_readSo),
  .inr (5, [.int u_wide, .int u_high, .int u_slackNow, .int u_tenants, .int u_letters, .int u_readings, .ref 12, .ref 13, .ref 14, .ref 15, .ref 16, .ref 17, .ref 18, .ref 19, .ref 20, .ref 21]),
  .inl (0, 6, .inl u_kinds),
  .inl (0, 6, .inl u_painOf),
  .inl (0, 6, .inl u_payFor),
  .inl (0, 6, .inl u_refused),
  .inl (1, 6, .inr (.inl u_owned)),
  .inl (1, 4, .inr (.inl u_litIn)),
  .inl (0, 6, .inl u_shapes),
  .inl (0, 6, .inl u_readAt),
  .inl (0, 6, .inl u_meant),
  .inl (0, 6, .inl u_readSo)]
def W_X5_X6 (q_wide : Int32) (q_high : Int32) (q_slackNow : Int32) (q_tenants : Int32) (q_letters : Int32) (q_readings : Int32) (q_kinds : Nat → Int32) (q_painOf : Nat → Int32) (q_payFor : Nat → Int32) (q_refused : Nat → Int32) (q_owned : Nat → Int64) (q_litIn : Nat → Int64) (q_shapes : Nat → Int32) (q_readAt : Nat → Int32) (q_meant : Nat → Int32) (q_readSo : Nat → Int32) (u_length : Int32) (u_bits : Int32) (u_letters : Nat → Int32) : mm_W := [.inr (5, [.int q_wide, .int q_high, .int q_slackNow, .int q_tenants, .int q_letters, .int q_readings, .ref 1, .ref 2, .ref 3, .ref 4, .ref 5, .ref 6, .ref 7, .ref 8, .ref 9, .ref 10]),
  .inl (0, 6, .inl q_kinds),
  .inl (0, 6, .inl q_painOf),
  .inl (0, 6, .inl q_payFor),
  .inl (0, 6, .inl q_refused),
  .inl (1, 6, .inr (.inl q_owned)),
  .inl (1, 4, .inr (.inl q_litIn)),
  .inl (0, 6, .inl q_shapes),
  .inl (0, 6, .inl q_readAt),
  .inl (0, 6, .inl q_meant),
  .inl (0, 6, .inl q_readSo),
  .inr (6, [.ref 12, .int u_length, .int u_bits]),
  .inl (0, 3, .inl u_letters)]
def W_X6 (q_length : Int32) (q_bits : Int32) (q_letters : Nat → Int32) : mm_W := [.inr (6, [.ref 1, .int q_length, .int q_bits]),
  .inl (0, 3, .inl q_letters)]
def W_X7 (q_firstKept : Int32) (q_secondKept : Int32) (q_wereBad : Int32) (q_wereNo : Int32) (q_wereFull : Int32) (q_wall_wide : Int32) (q_wall_high : Int32) (q_wall_slackNow : Int32) (q_wall_tenants : Int32) (q_wall_letters : Int32) (q_wall_readings : Int32) (q_wall_kinds : Nat → Int32) (q_wall_painOf : Nat → Int32) (q_wall_payFor : Nat → Int32) (q_wall_refused : Nat → Int32) (q_wall_owned : Nat → Int64) (q_wall_litIn : Nat → Int64) (q_wall_shapes : Nat → Int32) (q_wall_readAt : Nat → Int32) (q_wall_meant : Nat → Int32) (q_wall_readSo : Nat → Int32) (q_planned_wide : Int32) (q_planned_high : Int32) (q_planned_slackNow : Int32) (q_planned_tenants : Int32) (q_planned_letters : Int32) (q_planned_readings : Int32) (q_planned_kinds : Nat → Int32) (q_planned_painOf : Nat → Int32) (q_planned_payFor : Nat → Int32) (q_planned_refused : Nat → Int32) (q_planned_owned : Nat → Int64) (q_planned_litIn : Nat → Int64) (q_planned_shapes : Nat → Int32) (q_planned_readAt : Nat → Int32) (q_planned_meant : Nat → Int32) (q_planned_readSo : Nat → Int32) (q_firstImage_wide : Int32) (q_firstImage_high : Int32) (q_firstImage_slackNow : Int32) (q_firstImage_tenants : Int32) (q_firstImage_letters : Int32) (q_firstImage_readings : Int32) (q_firstImage_kinds : Nat → Int32) (q_firstImage_painOf : Nat → Int32) (q_firstImage_payFor : Nat → Int32) (q_firstImage_refused : Nat → Int32) (q_firstImage_owned : Nat → Int64) (q_firstImage_litIn : Nat → Int64) (q_firstImage_shapes : Nat → Int32) (q_firstImage_readAt : Nat → Int32) (q_firstImage_meant : Nat → Int32) (q_firstImage_readSo : Nat → Int32) (q_secondImage_wide : Int32) (q_secondImage_high : Int32) (q_secondImage_slackNow : Int32) (q_secondImage_tenants : Int32) (q_secondImage_letters : Int32) (q_secondImage_readings : Int32) (q_secondImage_kinds : Nat → Int32) (q_secondImage_painOf : Nat → Int32) (q_secondImage_payFor : Nat → Int32) (q_secondImage_refused : Nat → Int32) (q_secondImage_owned : Nat → Int64) (q_secondImage_litIn : Nat → Int64) (q_secondImage_shapes : Nat → Int32) (q_secondImage_readAt : Nat → Int32) (q_secondImage_meant : Nat → Int32) (q_secondImage_readSo : Nat → Int32) (q_plan_length : Int32) (q_plan_items : Int32) (q_plan_place : Int32) (q_plan_token : Int32) (q_plan_tokenAt : Int32) (q_plan_tokenValue : Int32) (q_plan_bytes : Nat → Int32) (q_plan_words : Nat → Int32) (q_plan_numbers : Nat → Int32) (q_asked_length : Int32) (q_asked_bits : Int32) (q_asked_letters : Nat → Int32) (q_askedBeside_length : Int32) (q_askedBeside_bits : Int32) (q_askedBeside_letters : Nat → Int32) (q_leastPains_pains : Int32) (q_leastPains_windows : Nat → Int32) (q_leastPains_shapes : Nat → Int32) (q_leastPains_places_y : Int32) (q_leastPains_places_boxes : Int32) (q_leastPains_places_lastColumn : Int32) (q_leastPains_places_lastTop : Int32) (q_leastPains_places_columns : Nat → Int32) (q_leastPains_deviations : Nat → Int32) (q_leastPains_painsOfCell : Nat → Int32) (q_leastPains_painsAt_0 : Nat → Int32) (q_leastPains_painsAt_1 : Nat → Int32) (q_leastPains_painsAt_2 : Nat → Int32) (q_leastPains_shapeAt_0 : Nat → Int32) (q_leastPains_shapeAt_1 : Nat → Int32) (q_leastPains_shapeAt_2 : Nat → Int32) (q_pictures_known : Int32) (q_pictures_lights : Nat → Int64) (q_pictures_places_y : Int32) (q_pictures_places_boxes : Int32) (q_pictures_places_lastColumn : Int32) (q_pictures_places_lastTop : Int32) (q_pictures_places_columns : Nat → Int32) (q_otherPictures_known : Int32) (q_otherPictures_lights : Nat → Int64) (q_otherPictures_places_y : Int32) (q_otherPictures_places_boxes : Int32) (q_otherPictures_places_lastColumn : Int32) (q_otherPictures_places_lastTop : Int32) (q_otherPictures_places_columns : Nat → Int32) (q_darkLamps_sets : Int32) (q_darkLamps_size : Int32) (q_darkLamps_least : Int32) (q_darkLamps_greatest : Int32) (q_darkLamps_windows : Nat → Int32) (q_darkLamps_shown : Nat → Int64) (q_darkLamps_soWithout : Nat → Int32) : mm_W := [.inr (7, [.ref 1, .ref 12, .ref 23, .ref 34, .int q_firstKept, .int q_secondKept, .ref 45, .ref 49, .ref 51, .ref 53, .ref 68, .ref 72, .ref 76, .int q_wereBad, .int q_wereNo, .int q_wereFull]),
  .inr (5, [.int q_wall_wide, .int q_wall_high, .int q_wall_slackNow, .int q_wall_tenants, .int q_wall_letters, .int q_wall_readings, .ref 2, .ref 3, .ref 4, .ref 5, .ref 6, .ref 7, .ref 8, .ref 9, .ref 10, .ref 11]),
  .inl (0, 6, .inl q_wall_kinds),
  .inl (0, 6, .inl q_wall_painOf),
  .inl (0, 6, .inl q_wall_payFor),
  .inl (0, 6, .inl q_wall_refused),
  .inl (1, 6, .inr (.inl q_wall_owned)),
  .inl (1, 4, .inr (.inl q_wall_litIn)),
  .inl (0, 6, .inl q_wall_shapes),
  .inl (0, 6, .inl q_wall_readAt),
  .inl (0, 6, .inl q_wall_meant),
  .inl (0, 6, .inl q_wall_readSo),
  .inr (5, [.int q_planned_wide, .int q_planned_high, .int q_planned_slackNow, .int q_planned_tenants, .int q_planned_letters, .int q_planned_readings, .ref 13, .ref 14, .ref 15, .ref 16, .ref 17, .ref 18, .ref 19, .ref 20, .ref 21, .ref 22]),
  .inl (0, 6, .inl q_planned_kinds),
  .inl (0, 6, .inl q_planned_painOf),
  .inl (0, 6, .inl q_planned_payFor),
  .inl (0, 6, .inl q_planned_refused),
  .inl (1, 6, .inr (.inl q_planned_owned)),
  .inl (1, 4, .inr (.inl q_planned_litIn)),
  .inl (0, 6, .inl q_planned_shapes),
  .inl (0, 6, .inl q_planned_readAt),
  .inl (0, 6, .inl q_planned_meant),
  .inl (0, 6, .inl q_planned_readSo),
  .inr (5, [.int q_firstImage_wide, .int q_firstImage_high, .int q_firstImage_slackNow, .int q_firstImage_tenants, .int q_firstImage_letters, .int q_firstImage_readings, .ref 24, .ref 25, .ref 26, .ref 27, .ref 28, .ref 29, .ref 30, .ref 31, .ref 32, .ref 33]),
  .inl (0, 6, .inl q_firstImage_kinds),
  .inl (0, 6, .inl q_firstImage_painOf),
  .inl (0, 6, .inl q_firstImage_payFor),
  .inl (0, 6, .inl q_firstImage_refused),
  .inl (1, 6, .inr (.inl q_firstImage_owned)),
  .inl (1, 4, .inr (.inl q_firstImage_litIn)),
  .inl (0, 6, .inl q_firstImage_shapes),
  .inl (0, 6, .inl q_firstImage_readAt),
  .inl (0, 6, .inl q_firstImage_meant),
  .inl (0, 6, .inl q_firstImage_readSo),
  .inr (5, [.int q_secondImage_wide, .int q_secondImage_high, .int q_secondImage_slackNow, .int q_secondImage_tenants, .int q_secondImage_letters, .int q_secondImage_readings, .ref 35, .ref 36, .ref 37, .ref 38, .ref 39, .ref 40, .ref 41, .ref 42, .ref 43, .ref 44]),
  .inl (0, 6, .inl q_secondImage_kinds),
  .inl (0, 6, .inl q_secondImage_painOf),
  .inl (0, 6, .inl q_secondImage_payFor),
  .inl (0, 6, .inl q_secondImage_refused),
  .inl (1, 6, .inr (.inl q_secondImage_owned)),
  .inl (1, 4, .inr (.inl q_secondImage_litIn)),
  .inl (0, 6, .inl q_secondImage_shapes),
  .inl (0, 6, .inl q_secondImage_readAt),
  .inl (0, 6, .inl q_secondImage_meant),
  .inl (0, 6, .inl q_secondImage_readSo),
  .inr (4, [.int q_plan_length, .int q_plan_items, .ref 46, .ref 47, .ref 48, .int q_plan_place, .int q_plan_token, .int q_plan_tokenAt, .int q_plan_tokenValue]),
  .inl (0, 200, .inl q_plan_bytes),
  .inl (0, 100, .inl q_plan_words),
  .inl (0, 300, .inl q_plan_numbers),
  .inr (6, [.ref 50, .int q_asked_length, .int q_asked_bits]),
  .inl (0, 3, .inl q_asked_letters),
  .inr (6, [.ref 52, .int q_askedBeside_length, .int q_askedBeside_bits]),
  .inl (0, 3, .inl q_askedBeside_letters),
  .inr (1, [.int q_leastPains_pains, .ref 54, .ref 55, .ref 56, .ref 58, .ref 59, .ref 60, .ref 64]),
  .inl (0, 3, .inl q_leastPains_windows),
  .inl (0, 3, .inl q_leastPains_shapes),
  .inr (3, [.ref 57, .int q_leastPains_places_y, .int q_leastPains_places_boxes, .int q_leastPains_places_lastColumn, .int q_leastPains_places_lastTop]),
  .inl (0, 3, .inl q_leastPains_places_columns),
  .inl (0, 299, .inl q_leastPains_deviations),
  .inl (0, 12, .inl q_leastPains_painsOfCell),
  .inl (3, 3, .inr (.inr (.inr (.inr (fun j => (some (8 + j) : Option Nat).map (mm_rn [53, 54, 55, 56, 57, 58, 59, 60, 61, 62, 63, 64, 65, 66, 67, 1, 2, 3, 4, 5, 6, 7, 8, 9, 10, 11, 49, 50])))))),
  .inl (0, 60, .inl q_leastPains_painsAt_0),
  .inl (0, 60, .inl q_leastPains_painsAt_1),
  .inl (0, 60, .inl q_leastPains_painsAt_2),
  .inl (3, 3, .inr (.inr (.inr (.inr (fun j => (some (12 + j) : Option Nat).map (mm_rn [53, 54, 55, 56, 57, 58, 59, 60, 61, 62, 63, 64, 65, 66, 67, 1, 2, 3, 4, 5, 6, 7, 8, 9, 10, 11, 49, 50])))))),
  .inl (0, 60, .inl q_leastPains_shapeAt_0),
  .inl (0, 60, .inl q_leastPains_shapeAt_1),
  .inl (0, 60, .inl q_leastPains_shapeAt_2),
  .inr (2, [.ref 69, .int q_pictures_known, .ref 70]),
  .inl (1, 42, .inr (.inl q_pictures_lights)),
  .inr (3, [.ref 71, .int q_pictures_places_y, .int q_pictures_places_boxes, .int q_pictures_places_lastColumn, .int q_pictures_places_lastTop]),
  .inl (0, 3, .inl q_pictures_places_columns),
  .inr (2, [.ref 73, .int q_otherPictures_known, .ref 74]),
  .inl (1, 42, .inr (.inl q_otherPictures_lights)),
  .inr (3, [.ref 75, .int q_otherPictures_places_y, .int q_otherPictures_places_boxes, .int q_otherPictures_places_lastColumn, .int q_otherPictures_places_lastTop]),
  .inl (0, 3, .inl q_otherPictures_places_columns),
  .inr (0, [.int q_darkLamps_sets, .int q_darkLamps_size, .int q_darkLamps_least, .int q_darkLamps_greatest, .ref 77, .ref 78, .ref 79]),
  .inl (0, 60, .inl q_darkLamps_windows),
  .inl (1, 6, .inr (.inl q_darkLamps_shown)),
  .inl (2, 6, .inl q_darkLamps_soWithout)]
def W_X8 (q_textSize : Int32) (q_cursor : Int32) (q_start : Int32) (q_token : Int32) (q_number : Int32) (q_word : Int64) (q_fault : Int32) (q_line : Int32) (q_foundPains : Int32) (q_foundLine : Int32) (q_deadMany : Int32) (q_deadSize : Int32) (q_deadLeast : Int32) (q_deadMost : Int32) (q_st : Nat → Int32) (q_before : Nat → Int32) (q_kept : Nat → Int32) (q_isKept : Nat → Int32) (q_refused : Nat → Int32) (q_text : Nat → Int32) (q_ones : Nat → Int32) (q_said : Nat → Int32) (q_readTable : Nat → Int32) (q_least : Nat → Int32) (q_made : Nat → Int32) (q_enough : Nat → Int32) (q_isWanted : Nat → Int32) (q_column : Nat → Int32) (q_foundColumn : Nat → Int32) (q_walls : Nat → Int64) (q_wallMany : Nat → Int32) (q_chosen : Nat → Int32) : mm_W := [.inr (8, [.ref 1, .ref 2, .ref 3, .ref 4, .ref 5, .ref 6, .int q_textSize, .ref 7, .int q_cursor, .int q_start, .int q_token, .int q_number, .long q_word, .int q_fault, .ref 8, .ref 9, .ref 10, .ref 11, .ref 12, .ref 13, .int q_line, .ref 14, .int q_foundPains, .int q_foundLine, .ref 15, .ref 16, .ref 17, .int q_deadMany, .int q_deadSize, .int q_deadLeast, .int q_deadMost, .ref 18]),
  .inl (0, 354, .inl q_st),
  .inl (0, 354, .inl q_before),
  .inl (0, 708, .inl q_kept),
  .inl (2, 2, .inl q_isKept),
  .inl (0, 3, .inl q_refused),
  .inl (0, 200, .inl q_text),
  .inl (0, 4096, .inl q_ones),
  .inl (0, 3, .inl q_said),
  .inl (0, 4096, .inl q_readTable),
  .inl (0, 72, .inl q_least),
  .inl (0, 72, .inl q_made),
  .inl (2, 4608, .inl q_enough),
  .inl (2, 64, .inl q_isWanted),
  .inl (0, 3, .inl q_column),
  .inl (0, 3, .inl q_foundColumn),
  .inl (1, 128, .inr (.inl q_walls)),
  .inl (0, 2, .inl q_wallMany),
  .inl (0, 32, .inl q_chosen)]
abbrev mX5_isWindowAt : mm_M := (yX5_isWindowAt, cX5_isWindowAt, 3, (some .boolean), { frames := 0, cells := 0, slots := 0, locals := 0 })
abbrev mX5_isWindow : mm_M := (yX5_isWindow, cX5_isWindow, 2, (some .boolean), { frames := 1, cells := 0, slots := 0, locals := 22 })
abbrev mX0_tellWindows : mm_M := (yX0_tellWindows, cX0_tellWindows, 4, (some .int), { frames := 2, cells := 0, slots := 0, locals := 43 })
abbrev mX7_windowsOf : mm_M := (yX7_windowsOf, cX7_windowsOf, 5, (some .long), { frames := 0, cells := 0, slots := 0, locals := 0 })
abbrev mJ6_bitCount_0f7a4 : mm_M := (yJ6_bitCount_0f7a4, cJ6_bitCount_0f7a4, 1, (some .int), { frames := 0, cells := 0, slots := 0, locals := 0 })
abbrev mX5_readAs : mm_M := (yX5_readAs, cX5_readAs, 6, (some .int), { frames := 1, cells := 0, slots := 0, locals := 20 })
abbrev mX0_tellReadings : mm_M := (yX0_tellReadings, cX0_tellReadings, 4, none, { frames := 2, cells := 0, slots := 0, locals := 45 })
abbrev mX7_shapeIn : mm_M := (yX7_shapeIn, cX7_shapeIn, 5, (some .int), { frames := 0, cells := 0, slots := 0, locals := 0 })
abbrev mX0_tells : mm_M := (yX0_tells, cX0_tells, 5, (some .boolean), { frames := 2, cells := 0, slots := 0, locals := 45 })
abbrev mX0_tellsAll : mm_M := (yX0_tellsAll, cX0_tellsAll, 5, (some .boolean), { frames := 3, cells := 0, slots := 0, locals := 69 })
abbrev mX0_look : mm_M := (yX0_look, cX0_look, 7, none, { frames := 4, cells := 0, slots := 0, locals := 93 })
abbrev mX0_find : mm_M := (yX0_find, cX0_find, 5, none, { frames := 5, cells := 0, slots := 0, locals := 119 })
abbrev mX1_addLarger : mm_M := (yX1_addLarger, cX1_addLarger, 5, (some .int), { frames := 0, cells := 0, slots := 0, locals := 0 })
abbrev mX3_packFrom : mm_M := (yX3_packFrom, cX3_packFrom, 4, none, { frames := 0, cells := 0, slots := 0, locals := 0 })
abbrev mX3_mostToRight : mm_M := (yX3_mostToRight, cX3_mostToRight, 2, (some .int), { frames := 0, cells := 0, slots := 0, locals := 0 })
abbrev mX3_begin : mm_M := (yX3_begin, cX3_begin, 3, (some .boolean), { frames := 1, cells := 0, slots := 0, locals := 23 })
abbrev mX5_changeable : mm_M := (yX5_changeable, cX5_changeable, 8, (some .long), { frames := 0, cells := 0, slots := 0, locals := 0 })
abbrev mX5_ownerOf : mm_M := (yX5_ownerOf, cX5_ownerOf, 3, (some .int), { frames := 0, cells := 0, slots := 0, locals := 0 })
abbrev mX5_isLit : mm_M := (yX5_isLit, cX5_isLit, 3, (some .boolean), { frames := 0, cells := 0, slots := 0, locals := 0 })
abbrev mX5_painsOfTenant : mm_M := (yX5_painsOfTenant, cX5_painsOfTenant, 4, (some .int), { frames := 0, cells := 0, slots := 0, locals := 0 })
abbrev mX5_painsOfChange : mm_M := (yX5_painsOfChange, cX5_painsOfChange, 4, (some .int), { frames := 1, cells := 0, slots := 0, locals := 23 })
abbrev mX1_tellCells : mm_M := (yX1_tellCells, cX1_tellCells, 6, none, { frames := 2, cells := 0, slots := 0, locals := 46 })
abbrev mX1_painsOfCells : mm_M := (yX1_painsOfCells, cX1_painsOfCells, 4, (some .int), { frames := 0, cells := 0, slots := 0, locals := 0 })
abbrev mX1_shapeBox : mm_M := (yX1_shapeBox, cX1_shapeBox, 17, none, { frames := 3, cells := 0, slots := 0, locals := 71 })
abbrev mX1_shapeAllBoxes : mm_M := (yX1_shapeAllBoxes, cX1_shapeAllBoxes, 9, none, { frames := 4, cells := 0, slots := 0, locals := 107 })
abbrev mX3_window : mm_M := (yX3_window, cX3_window, 2, (some .int), { frames := 0, cells := 0, slots := 0, locals := 0 })
abbrev mX1_keepPlace : mm_M := (yX1_keepPlace, cX1_keepPlace, 3, none, { frames := 1, cells := 0, slots := 0, locals := 21 })
abbrev mX3_goOn : mm_M := (yX3_goOn, cX3_goOn, 2, (some .boolean), { frames := 1, cells := 0, slots := 0, locals := 23 })
abbrev mX1_find : mm_M := (yX1_find, cX1_find, 8, none, { frames := 5, cells := 0, slots := 0, locals := 135 })
abbrev mX2_picture : mm_M := (yX2_picture, cX2_picture, 9, (some .long), { frames := 1, cells := 0, slots := 0, locals := 24 })
abbrev mX2_find : mm_M := (yX2_find, cX2_find, 9, none, { frames := 2, cells := 0, slots := 0, locals := 52 })
abbrev mJ13_bitCount_95d88 : mm_M := (yJ13_bitCount_95d88, cJ13_bitCount_95d88, 2, (some .int), { frames := 0, cells := 0, slots := 0, locals := 0 })
abbrev mX2_fewestUnlike : mm_M := (yX2_fewestUnlike, cX2_fewestUnlike, 6, (some .int), { frames := 1, cells := 0, slots := 0, locals := 21 })
abbrev mX4_addBytes : mm_M := (yX4_addBytes, cX4_addBytes, 5, (some .int), { frames := 0, cells := 0, slots := 0, locals := 0 })
abbrev mX4_empty : mm_M := (yX4_empty, cX4_empty, 2, (some .int), { frames := 0, cells := 0, slots := 0, locals := 0 })
abbrev mX4_isFigure : mm_M := (yX4_isFigure, cX4_isFigure, 1, (some .boolean), { frames := 0, cells := 0, slots := 0, locals := 0 })
abbrev mX4_takeNumber : mm_M := (yX4_takeNumber, cX4_takeNumber, 1, none, { frames := 1, cells := 0, slots := 0, locals := 20 })
abbrev mX4_isSmallLetter : mm_M := (yX4_isSmallLetter, cX4_isSmallLetter, 1, (some .boolean), { frames := 0, cells := 0, slots := 0, locals := 0 })
abbrev mX4_wordOf : mm_M := (yX4_wordOf, cX4_wordOf, 1, (some (.object "java/lang/String")), { frames := 0, cells := 0, slots := 0, locals := 0 })
abbrev mX4_isTokenText : mm_M := (yX4_isTokenText, cX4_isTokenText, 3, (some .boolean), { frames := 4, cells := 0, slots := 0, locals := 85 })
abbrev mX4_takeWord : mm_M := (yX4_takeWord, cX4_takeWord, 2, none, { frames := 5, cells := 0, slots := 0, locals := 107 })
abbrev mX4_takeToken : mm_M := (yX4_takeToken, cX4_takeToken, 1, none, { frames := 6, cells := 0, slots := 0, locals := 128 })
abbrev mX4_numbersOf : mm_M := (yX4_numbersOf, cX4_numbersOf, 1, (some .int), { frames := 0, cells := 0, slots := 0, locals := 0 })
abbrev mX4_takeItem : mm_M := (yX4_takeItem, cX4_takeItem, 3, (some .boolean), { frames := 7, cells := 0, slots := 0, locals := 148 })
abbrev mX4_parse : mm_M := (yX4_parse, cX4_parse, 1, (some .int), { frames := 8, cells := 0, slots := 0, locals := 170 })
abbrev mX5_beAnew : mm_M := (yX5_beAnew, cX5_beAnew, 4, none, { frames := 0, cells := 0, slots := 0, locals := 0 })
abbrev mX5_setSize : mm_M := (yX5_setSize, cX5_setSize, 3, (some .int), { frames := 1, cells := 0, slots := 0, locals := 23 })
abbrev mX5_addTenant : mm_M := (yX5_addTenant, cX5_addTenant, 4, (some .int), { frames := 0, cells := 0, slots := 0, locals := 0 })
abbrev mX7_isShape : mm_M := (yX7_isShape, cX7_isShape, 1, (some .boolean), { frames := 0, cells := 0, slots := 0, locals := 0 })
abbrev mX5_addLetter : mm_M := (yX5_addLetter, cX5_addLetter, 3, (some .int), { frames := 1, cells := 0, slots := 0, locals := 20 })
abbrev mX5_setSlack : mm_M := (yX5_setSlack, cX5_setSlack, 3, (some .int), { frames := 0, cells := 0, slots := 0, locals := 0 })
abbrev mX5_isTenant : mm_M := (yX5_isTenant, cX5_isTenant, 2, (some .boolean), { frames := 0, cells := 0, slots := 0, locals := 0 })
abbrev mX5_setOwner : mm_M := (yX5_setOwner, cX5_setOwner, 4, (some .int), { frames := 2, cells := 0, slots := 0, locals := 43 })
abbrev mX7_isHour : mm_M := (yX7_isHour, cX7_isHour, 1, (some .boolean), { frames := 0, cells := 0, slots := 0, locals := 0 })
abbrev mX5_setLit : mm_M := (yX5_setLit, cX5_setLit, 4, (some .int), { frames := 2, cells := 0, slots := 0, locals := 43 })
abbrev mX4_tellItem : mm_M := (yX4_tellItem, cX4_tellItem, 8, (some .int), { frames := 3, cells := 0, slots := 0, locals := 66 })
abbrev mX4_tellTo : mm_M := (yX4_tellTo, cX4_tellTo, 4, (some .int), { frames := 4, cells := 0, slots := 0, locals := 93 })
abbrev mX5_beLike : mm_M := (yX5_beLike, cX5_beLike, 2, none, { frames := 1, cells := 0, slots := 0, locals := 60 })
abbrev mX5_isTop : mm_M := (yX5_isTop, cX5_isTop, 2, (some .boolean), { frames := 0, cells := 0, slots := 0, locals := 0 })
abbrev mX5_isBox : mm_M := (yX5_isBox, cX5_isBox, 2, (some .boolean), { frames := 2, cells := 0, slots := 0, locals := 43 })
abbrev mX5_isLetter : mm_M := (yX5_isLetter, cX5_isLetter, 2, (some .boolean), { frames := 0, cells := 0, slots := 0, locals := 0 })
abbrev mX5_setRefused : mm_M := (yX5_setRefused, cX5_setRefused, 4, (some .int), { frames := 1, cells := 0, slots := 0, locals := 21 })
abbrev mX5_addReading : mm_M := (yX5_addReading, cX5_addReading, 4, (some .int), { frames := 3, cells := 0, slots := 0, locals := 64 })
abbrev mX5_payOf : mm_M := (yX5_payOf, cX5_payOf, 4, (some .int), { frames := 0, cells := 0, slots := 0, locals := 0 })
abbrev mX5_fits : mm_M := (yX5_fits, cX5_fits, 8, (some .boolean), { frames := 2, cells := 0, slots := 0, locals := 45 })
abbrev mX5_firstColumn : mm_M := (yX5_firstColumn, cX5_firstColumn, 8, (some .int), { frames := 3, cells := 0, slots := 0, locals := 72 })
abbrev mX5_canBeSaidAt : mm_M := (yX5_canBeSaidAt, cX5_canBeSaidAt, 9, (some .boolean), { frames := 4, cells := 0, slots := 0, locals := 99 })
abbrev mX5_canBeSaid : mm_M := (yX5_canBeSaid, cX5_canBeSaid, 6, (some .boolean), { frames := 5, cells := 0, slots := 0, locals := 127 })
abbrev mX5_digestOfWindow : mm_M := (yX5_digestOfWindow, cX5_digestOfWindow, 7, (some .long), { frames := 1, cells := 0, slots := 0, locals := 22 })
abbrev mX5_digestOn : mm_M := (yX5_digestOn, cX5_digestOn, 7, (some .long), { frames := 2, cells := 0, slots := 0, locals := 48 })
abbrev mX6_spell : mm_M := (yX6_spell, cX6_spell, 6, (some .boolean), { frames := 0, cells := 0, slots := 0, locals := 0 })
abbrev mX7_counted : mm_M := (yX7_counted, cX7_counted, 2, (some .int), { frames := 0, cells := 0, slots := 0, locals := 0 })
abbrev mX7_wall : mm_M := (yX7_wall, cX7_wall, 3, (some .int), { frames := 2, cells := 0, slots := 0, locals := 45 })
abbrev mX7_tenant : mm_M := (yX7_tenant, cX7_tenant, 4, (some .int), { frames := 1, cells := 0, slots := 0, locals := 23 })
abbrev mX7_countedApart : mm_M := (yX7_countedApart, cX7_countedApart, 2, (some .int), { frames := 1, cells := 0, slots := 0, locals := 21 })
abbrev mX7_refuses : mm_M := (yX7_refuses, cX7_refuses, 3, (some .int), { frames := 2, cells := 0, slots := 0, locals := 44 })
abbrev mX7_has : mm_M := (yX7_has, cX7_has, 3, (some .int), { frames := 3, cells := 0, slots := 0, locals := 66 })
abbrev mX7_letter : mm_M := (yX7_letter, cX7_letter, 2, (some .int), { frames := 2, cells := 0, slots := 0, locals := 42 })
abbrev mX7_lit : mm_M := (yX7_lit, cX7_lit, 4, (some .int), { frames := 3, cells := 0, slots := 0, locals := 66 })
abbrev mX7_slack : mm_M := (yX7_slack, cX7_slack, 2, (some .int), { frames := 1, cells := 0, slots := 0, locals := 22 })
abbrev mX7_pains : mm_M := (yX7_pains, cX7_pains, 3, (some .int), { frames := 2, cells := 0, slots := 0, locals := 46 })
abbrev mX7_type : mm_M := (yX7_type, cX7_type, 4, (some .int), { frames := 1, cells := 0, slots := 0, locals := 24 })
abbrev mX7_clear : mm_M := (yX7_clear, cX7_clear, 1, (some .int), { frames := 1, cells := 0, slots := 0, locals := 21 })
abbrev mX7_read : mm_M := (yX7_read, cX7_read, 3, (some .int), { frames := 9, cells := 0, slots := 0, locals := 190 })
abbrev mX7_seen : mm_M := (yX7_seen, cX7_seen, 2, (some .int), { frames := 0, cells := 0, slots := 0, locals := 0 })
abbrev mX7_reads : mm_M := (yX7_reads, cX7_reads, 3, (some .int), { frames := 2, cells := 0, slots := 0, locals := 45 })
abbrev mX7_shape : mm_M := (yX7_shape, cX7_shape, 3, (some .int), { frames := 3, cells := 0, slots := 0, locals := 64 })
abbrev mX7_says : mm_M := (yX7_says, cX7_says, 8, (some .int), { frames := 2, cells := 0, slots := 0, locals := 45 })
abbrev mX7_isAsked : mm_M := (yX7_isAsked, cX7_isAsked, 3, (some .boolean), { frames := 1, cells := 0, slots := 0, locals := 25 })
abbrev mX7_least : mm_M := (yX7_least, cX7_least, 3, (some .int), { frames := 6, cells := 0, slots := 0, locals := 162 })
abbrev mX7_box : mm_M := (yX7_box, cX7_box, 5, (some .int), { frames := 6, cells := 0, slots := 0, locals := 162 })
abbrev mX7_two : mm_M := (yX7_two, cX7_two, 5, (some .int), { frames := 3, cells := 0, slots := 0, locals := 80 })
abbrev mX7_bought : mm_M := (yX7_bought, cX7_bought, 8, (some .int), { frames := 6, cells := 0, slots := 0, locals := 152 })
abbrev mX7_can : mm_M := (yX7_can, cX7_can, 5, (some .int), { frames := 6, cells := 0, slots := 0, locals := 152 })
abbrev mX7_bars : mm_M := (yX7_bars, cX7_bars, 7, (some .int), { frames := 6, cells := 0, slots := 0, locals := 152 })
abbrev mX7_reading : mm_M := (yX7_reading, cX7_reading, 4, (some .int), { frames := 4, cells := 0, slots := 0, locals := 87 })
abbrev mX7_unread : mm_M := (yX7_unread, cX7_unread, 2, (some .int), { frames := 0, cells := 0, slots := 0, locals := 0 })
abbrev mX7_dead : mm_M := (yX7_dead, cX7_dead, 2, (some .int), { frames := 6, cells := 0, slots := 0, locals := 143 })
abbrev mX7_mostUnlike : mm_M := (yX7_mostUnlike, cX7_mostUnlike, 2, (some .int), { frames := 0, cells := 0, slots := 0, locals := 0 })
abbrev mX7_unlike : mm_M := (yX7_unlike, cX7_unlike, 3, (some .int), { frames := 1, cells := 0, slots := 0, locals := 21 })
abbrev mX7_image : mm_M := (yX7_image, cX7_image, 2, (some .int), { frames := 2, cells := 0, slots := 0, locals := 81 })
abbrev mX7_from : mm_M := (yX7_from, cX7_from, 2, (some .int), { frames := 2, cells := 0, slots := 0, locals := 81 })
abbrev mX7_status : mm_M := (yX7_status, cX7_status, 2, (some .int), { frames := 0, cells := 0, slots := 0, locals := 0 })
abbrev mX7_howMany : mm_M := (yX7_howMany, cX7_howMany, 2, (some .int), { frames := 0, cells := 0, slots := 0, locals := 0 })
abbrev mX7_count : mm_M := (yX7_count, cX7_count, 2, (some .int), { frames := 1, cells := 0, slots := 0, locals := 21 })
abbrev mX7_digest : mm_M := (yX7_digest, cX7_digest, 4, (some .long), { frames := 3, cells := 0, slots := 0, locals := 74 })
abbrev mX8_in : mm_M := (yX8_in, cX8_in, 3, (some .boolean), { frames := 0, cells := 0, slots := 0, locals := 0 })
abbrev mX8_told : mm_M := (yX8_told, cX8_told, 2, (some .int), { frames := 0, cells := 0, slots := 0, locals := 0 })
abbrev mX8_anew : mm_M := (yX8_anew, cX8_anew, 4, none, { frames := 0, cells := 0, slots := 0, locals := 0 })
abbrev mX8_isPlace : mm_M := (yX8_isPlace, cX8_isPlace, 3, (some .boolean), { frames := 1, cells := 0, slots := 0, locals := 22 })
abbrev mX8_isWindow : mm_M := (yX8_isWindow, cX8_isWindow, 2, (some .boolean), { frames := 2, cells := 0, slots := 0, locals := 44 })
abbrev mX8_isBox : mm_M := (yX8_isBox, cX8_isBox, 2, (some .boolean), { frames := 3, cells := 0, slots := 0, locals := 65 })
abbrev mX8_isMan : mm_M := (yX8_isMan, cX8_isMan, 2, (some .boolean), { frames := 1, cells := 0, slots := 0, locals := 22 })
abbrev mX8_isLetter : mm_M := (yX8_isLetter, cX8_isLetter, 2, (some .boolean), { frames := 1, cells := 0, slots := 0, locals := 22 })
abbrev mX8_isHour : mm_M := (yX8_isHour, cX8_isHour, 1, (some .boolean), { frames := 1, cells := 0, slots := 0, locals := 22 })
abbrev mX8_putWall : mm_M := (yX8_putWall, cX8_putWall, 3, (some .int), { frames := 1, cells := 0, slots := 0, locals := 23 })
abbrev mX8_putMan : mm_M := (yX8_putMan, cX8_putMan, 5, (some .int), { frames := 1, cells := 0, slots := 0, locals := 22 })
abbrev mX8_putOwner : mm_M := (yX8_putOwner, cX8_putOwner, 4, (some .int), { frames := 3, cells := 0, slots := 0, locals := 65 })
abbrev mX8_putLetter : mm_M := (yX8_putLetter, cX8_putLetter, 4, (some .int), { frames := 1, cells := 0, slots := 0, locals := 22 })
abbrev mX8_putLight : mm_M := (yX8_putLight, cX8_putLight, 5, (some .int), { frames := 3, cells := 0, slots := 0, locals := 65 })
abbrev mX8_putSlack : mm_M := (yX8_putSlack, cX8_putSlack, 3, (some .int), { frames := 1, cells := 0, slots := 0, locals := 22 })
abbrev mX8_wall : mm_M := (yX8_wall, cX8_wall, 3, (some .int), { frames := 2, cells := 0, slots := 0, locals := 45 })
abbrev mX8_tenant : mm_M := (yX8_tenant, cX8_tenant, 4, (some .int), { frames := 2, cells := 0, slots := 0, locals := 46 })
abbrev mX8_refuses : mm_M := (yX8_refuses, cX8_refuses, 5, (some .int), { frames := 2, cells := 0, slots := 0, locals := 43 })
abbrev mX8_has : mm_M := (yX8_has, cX8_has, 3, (some .int), { frames := 4, cells := 0, slots := 0, locals := 88 })
abbrev mX8_letter : mm_M := (yX8_letter, cX8_letter, 2, (some .int), { frames := 2, cells := 0, slots := 0, locals := 45 })
abbrev mX8_lit : mm_M := (yX8_lit, cX8_lit, 4, (some .int), { frames := 4, cells := 0, slots := 0, locals := 89 })
abbrev mX8_slack : mm_M := (yX8_slack, cX8_slack, 2, (some .int), { frames := 2, cells := 0, slots := 0, locals := 44 })
abbrev mX8_willNot : mm_M := (yX8_willNot, cX8_willNot, 5, (some .boolean), { frames := 0, cells := 0, slots := 0, locals := 0 })
abbrev mX8_price : mm_M := (yX8_price, cX8_price, 7, (some .int), { frames := 1, cells := 0, slots := 0, locals := 24 })
abbrev mX8_pains : mm_M := (yX8_pains, cX8_pains, 3, (some .int), { frames := 3, cells := 0, slots := 0, locals := 65 })
abbrev mX8_type : mm_M := (yX8_type, cX8_type, 5, (some .int), { frames := 1, cells := 0, slots := 0, locals := 22 })
abbrev mX8_clear : mm_M := (yX8_clear, cX8_clear, 2, (some .int), { frames := 0, cells := 0, slots := 0, locals := 0 })
abbrev mX8_byteAt : mm_M := (yX8_byteAt, cX8_byteAt, 2, (some .int), { frames := 0, cells := 0, slots := 0, locals := 0 })
abbrev mX8_next : mm_M := (yX8_next, cX8_next, 2, none, { frames := 1, cells := 0, slots := 0, locals := 22 })
abbrev mX8_item : mm_M := (yX8_item, cX8_item, 1, (some .int), { frames := 0, cells := 0, slots := 0, locals := 0 })
abbrev mX8_numbersOf : mm_M := (yX8_numbersOf, cX8_numbersOf, 1, (some .int), { frames := 0, cells := 0, slots := 0, locals := 0 })
abbrev mX8_readItem : mm_M := (yX8_readItem, cX8_readItem, 3, (some .int), { frames := 2, cells := 0, slots := 0, locals := 43 })
abbrev mX8_findFault : mm_M := (yX8_findFault, cX8_findFault, 2, (some .int), { frames := 3, cells := 0, slots := 0, locals := 65 })
abbrev mX8_isDone : mm_M := (yX8_isDone, cX8_isDone, 4, (some .boolean), { frames := 4, cells := 0, slots := 0, locals := 89 })
abbrev mX8_read : mm_M := (yX8_read, cX8_read, 5, (some .int), { frames := 5, cells := 0, slots := 0, locals := 112 })
abbrev mX8_readAs : mm_M := (yX8_readAs, cX8_readAs, 6, (some .int), { frames := 0, cells := 0, slots := 0, locals := 0 })
abbrev mX8_findReads : mm_M := (yX8_findReads, cX8_findReads, 2, none, { frames := 1, cells := 0, slots := 0, locals := 25 })
abbrev mX8_turned : mm_M := (yX8_turned, cX8_turned, 3, (some .int), { frames := 0, cells := 0, slots := 0, locals := 0 })
abbrev mX8_cellOf : mm_M := (yX8_cellOf, cX8_cellOf, 2, (some .int), { frames := 0, cells := 0, slots := 0, locals := 0 })
abbrev mX8_shapeAt : mm_M := (yX8_shapeAt, cX8_shapeAt, 5, (some .int), { frames := 1, cells := 0, slots := 0, locals := 21 })
abbrev mX8_reads : mm_M := (yX8_reads, cX8_reads, 3, (some .int), { frames := 1, cells := 0, slots := 0, locals := 25 })
abbrev mX8_shape : mm_M := (yX8_shape, cX8_shape, 3, (some .int), { frames := 4, cells := 0, slots := 0, locals := 86 })
abbrev mX8_says : mm_M := (yX8_says, cX8_says, 8, (some .int), { frames := 2, cells := 0, slots := 0, locals := 45 })
abbrev mX8_isWord : mm_M := (yX8_isWord, cX8_isWord, 4, (some .boolean), { frames := 2, cells := 0, slots := 0, locals := 43 })
abbrev mX8_longOf : mm_M := (yX8_longOf, cX8_longOf, 1, (some .int), { frames := 0, cells := 0, slots := 0, locals := 0 })
abbrev mX8_letterOf : mm_M := (yX8_letterOf, cX8_letterOf, 4, (some .int), { frames := 1, cells := 0, slots := 0, locals := 20 })
abbrev mX8_priceOf : mm_M := (yX8_priceOf, cX8_priceOf, 9, (some .int), { frames := 2, cells := 0, slots := 0, locals := 50 })
abbrev mX8_makeBox : mm_M := (yX8_makeBox, cX8_makeBox, 9, none, { frames := 3, cells := 0, slots := 0, locals := 78 })
abbrev mX8_makeBoxes : mm_M := (yX8_makeBoxes, cX8_makeBoxes, 5, none, { frames := 4, cells := 0, slots := 0, locals := 106 })
abbrev mX8_firstRow : mm_M := (yX8_firstRow, cX8_firstRow, 3, none, { frames := 1, cells := 0, slots := 0, locals := 20 })
abbrev mX8_isRow : mm_M := (yX8_isRow, cX8_isRow, 2, (some .boolean), { frames := 1, cells := 0, slots := 0, locals := 20 })
abbrev mX8_nextRow : mm_M := (yX8_nextRow, cX8_nextRow, 6, none, { frames := 2, cells := 0, slots := 0, locals := 42 })
abbrev mX8_findWord : mm_M := (yX8_findWord, cX8_findWord, 6, none, { frames := 5, cells := 0, slots := 0, locals := 130 })
abbrev mX8_least : mm_M := (yX8_least, cX8_least, 3, (some .int), { frames := 6, cells := 0, slots := 0, locals := 155 })
abbrev mX8_box : mm_M := (yX8_box, cX8_box, 6, (some .int), { frames := 6, cells := 0, slots := 0, locals := 155 })
abbrev mX8_wallOf : mm_M := (yX8_wallOf, cX8_wallOf, 5, (some .long), { frames := 0, cells := 0, slots := 0, locals := 0 })
abbrev mX8_findWalls : mm_M := (yX8_findWalls, cX8_findWalls, 11, none, { frames := 3, cells := 0, slots := 0, locals := 78 })
abbrev mX8_onesOf : mm_M := (yX8_onesOf, cX8_onesOf, 5, (some .int), { frames := 0, cells := 0, slots := 0, locals := 0 })
abbrev mX8_two : mm_M := (yX8_two, cX8_two, 9, (some .int), { frames := 4, cells := 0, slots := 0, locals := 108 })
abbrev mX8_menOf : mm_M := (yX8_menOf, cX8_menOf, 8, (some .int), { frames := 2, cells := 0, slots := 0, locals := 50 })
abbrev mX8_findEnough : mm_M := (yX8_findEnough, cX8_findEnough, 9, none, { frames := 3, cells := 0, slots := 0, locals := 77 })
abbrev mX8_canBy : mm_M := (yX8_canBy, cX8_canBy, 6, (some .boolean), { frames := 3, cells := 0, slots := 0, locals := 67 })
abbrev mX8_payOf : mm_M := (yX8_payOf, cX8_payOf, 4, (some .int), { frames := 0, cells := 0, slots := 0, locals := 0 })
abbrev mX8_bought : mm_M := (yX8_bought, cX8_bought, 6, (some .int), { frames := 4, cells := 0, slots := 0, locals := 105 })
abbrev mX8_can : mm_M := (yX8_can, cX8_can, 6, (some .int), { frames := 6, cells := 0, slots := 0, locals := 155 })
abbrev mX8_bars : mm_M := (yX8_bars, cX8_bars, 7, (some .int), { frames := 6, cells := 0, slots := 0, locals := 155 })
abbrev mX8_reading : mm_M := (yX8_reading, cX8_reading, 5, (some .int), { frames := 4, cells := 0, slots := 0, locals := 86 })
abbrev mX8_unread : mm_M := (yX8_unread, cX8_unread, 2, (some .int), { frames := 0, cells := 0, slots := 0, locals := 0 })
abbrev mX8_areSo : mm_M := (yX8_areSo, cX8_areSo, 9, (some .boolean), { frames := 1, cells := 0, slots := 0, locals := 25 })
abbrev mX8_tryDead : mm_M := (yX8_tryDead, cX8_tryDead, 4, none, { frames := 2, cells := 0, slots := 0, locals := 53 })
abbrev mX8_dead : mm_M := (yX8_dead, cX8_dead, 4, (some .int), { frames := 3, cells := 0, slots := 0, locals := 76 })
abbrev mX8_isUnlike : mm_M := (yX8_isUnlike, cX8_isUnlike, 6, (some .boolean), { frames := 0, cells := 0, slots := 0, locals := 0 })
abbrev mX8_unlike : mm_M := (yX8_unlike, cX8_unlike, 9, (some .int), { frames := 1, cells := 0, slots := 0, locals := 25 })
abbrev mX8_image : mm_M := (yX8_image, cX8_image, 3, (some .int), { frames := 1, cells := 0, slots := 0, locals := 22 })
abbrev mX8_from : mm_M := (yX8_from, cX8_from, 3, (some .int), { frames := 1, cells := 0, slots := 0, locals := 22 })
abbrev mX8_status : mm_M := (yX8_status, cX8_status, 2, (some .int), { frames := 1, cells := 0, slots := 0, locals := 22 })
abbrev mX8_count : mm_M := (yX8_count, cX8_count, 2, (some .int), { frames := 1, cells := 0, slots := 0, locals := 22 })
abbrev mX8_digest : mm_M := (yX8_digest, cX8_digest, 5, (some .long), { frames := 3, cells := 0, slots := 0, locals := 65 })
theorem ki_0 : Int32.ofInt (0) = 0 := by decide
theorem fG_X5_9 : mm_fld RX5 9 5 0 := ⟨_, TX5, 16, rfl, by decide, mm_in 96 (by decide +kernel) rfl, inX5⟩
theorem fG_X5_15 : mm_fld RX5 15 5 1 := ⟨_, TX5, 16, rfl, by decide, mm_in 99 (by decide +kernel) rfl, inX5⟩
theorem ki_1 : Int32.ofInt (1) = 1 := by decide
theorem kb_60 : (Int8.ofInt (60)).toInt32 = 60 := by decide
theorem kb_12 : (Int8.ofInt (12)).toInt32 = 12 := by decide
theorem cV_X5_68 : mm_cv RX5 68 mX5_isWindowAt 2 := ⟨mm_in 447 (by decide +kernel) rfl, mm_in 448 (by decide +kernel) rfl, mm_in 449 (by decide +kernel) rfl, mm_in 67 (by decide +kernel) rfl, mm_in 450 (by decide +kernel) rfl, ⟨by decide +kernel, by decide +kernel, by decide +kernel⟩⟩
theorem cV_X0_48 : mm_cv RX0 48 mX5_isWindow 1 := ⟨mm_in 839 (by decide +kernel) rfl, mm_in 444 (by decide +kernel) rfl, mm_in 445 (by decide +kernel) rfl, mm_in 67 (by decide +kernel) rfl, mm_in 446 (by decide +kernel) rfl, ⟨by decide +kernel, by decide +kernel, by decide +kernel⟩⟩
theorem fG_X0_24 : mm_fld RX0 24 0 4 := ⟨_, TX0, 7, rfl, by decide, mm_in 323 (by decide +kernel) rfl, inX0⟩
theorem ki_4 : Int32.ofInt (4) = 4 := by decide
theorem ki_3 : Int32.ofInt (3) = 3 := by decide
theorem kb_7 : (Int8.ofInt (7)).toInt32 = 7 := by decide
theorem kC_J6_265 : Cond.constant RJ6 265 (1431655765) ∈ mm_big := mm_in 653 (by decide +kernel) rfl
theorem kC_J6_266 : Cond.constant RJ6 266 (858993459) ∈ mm_big := mm_in 654 (by decide +kernel) rfl
theorem ki_2 : Int32.ofInt (2) = 2 := by decide
theorem kC_J6_267 : Cond.constant RJ6 267 (252645135) ∈ mm_big := mm_in 655 (by decide +kernel) rfl
theorem kb_8 : (Int8.ofInt (8)).toInt32 = 8 := by decide
theorem kb_16 : (Int8.ofInt (16)).toInt32 = 16 := by decide
theorem kb_63 : (Int8.ofInt (63)).toInt32 = 63 := by decide
theorem fG_X5_18 : mm_fld RX5 18 5 2 := ⟨_, TX5, 16, rfl, by decide, mm_in 103 (by decide +kernel) rfl, inX5⟩
theorem ki_m1 : Int32.ofInt (-1) = -1 := by decide
theorem fG_X5_24 : mm_fld RX5 24 5 4 := ⟨_, TX5, 16, rfl, by decide, mm_in 107 (by decide +kernel) rfl, inX5⟩
theorem fG_X5_50 : mm_fld RX5 50 5 12 := ⟨_, TX5, 16, rfl, by decide, mm_in 121 (by decide +kernel) rfl, inX5⟩
theorem cS_X5_107 : mm_cs RX5 107 mJ6_bitCount_0f7a4 1 := ⟨mm_in 650 (by decide +kernel) rfl, mm_in 651 (by decide +kernel) rfl, mm_in 80 (by decide +kernel) rfl, mm_in 652 (by decide +kernel) rfl, ⟨by decide +kernel, by decide +kernel, by decide +kernel⟩⟩
theorem fG_X0_54 : mm_fld RX0 54 5 5 := ⟨_, TX5, 16, rfl, by decide, mm_in 110 (by decide +kernel) rfl, inX5⟩
theorem fG_X0_57 : mm_fld RX0 57 5 12 := ⟨_, TX5, 16, rfl, by decide, mm_in 123 (by decide +kernel) rfl, inX5⟩
theorem fG_X0_60 : mm_fld RX0 60 5 14 := ⟨_, TX5, 16, rfl, by decide, mm_in 128 (by decide +kernel) rfl, inX5⟩
theorem fG_X0_28 : mm_fld RX0 28 0 5 := ⟨_, TX0, 7, rfl, by decide, mm_in 324 (by decide +kernel) rfl, inX0⟩
theorem fG_X0_63 : mm_fld RX0 63 5 13 := ⟨_, TX5, 16, rfl, by decide, mm_in 126 (by decide +kernel) rfl, inX5⟩
theorem cN_X0_66 : mm_cn RX0 66 mX7_windowsOf 2 := ⟨⟨"LitWindows", List.mem_of_getElem? (i := 12) rfl⟩, mm_in 764 (by decide +kernel) rfl, mm_in 66 (by decide +kernel) rfl, mm_in 765 (by decide +kernel) rfl, ⟨by decide +kernel, by decide +kernel, by decide +kernel⟩⟩
theorem fG_X0_32 : mm_fld RX0 32 0 6 := ⟨_, TX0, 7, rfl, by decide, mm_in 325 (by decide +kernel) rfl, inX0⟩
theorem cV_X0_70 : mm_cv RX0 70 mX5_readAs 1 := ⟨mm_in 845 (by decide +kernel) rfl, mm_in 647 (by decide +kernel) rfl, mm_in 648 (by decide +kernel) rfl, mm_in 67 (by decide +kernel) rfl, mm_in 649 (by decide +kernel) rfl, ⟨by decide +kernel, by decide +kernel, by decide +kernel⟩⟩
theorem fG_X0_74 : mm_fld RX0 74 5 15 := ⟨_, TX5, 16, rfl, by decide, mm_in 130 (by decide +kernel) rfl, inX5⟩
theorem kC_X7_272 : Cond.constantLong RX7 272 (7) ∈ mm_big := mm_in 671 (by decide +kernel) rfl
theorem kC_X0_85 : Cond.constantLong RX0 85 (-1) ∈ mm_big := mm_in 858 (by decide +kernel) rfl
theorem cN_X0_87 : mm_cn RX0 87 mX7_shapeIn 2 := ⟨⟨"LitWindows", List.mem_of_getElem? (i := 13) rfl⟩, mm_in 669 (by decide +kernel) rfl, mm_in 66 (by decide +kernel) rfl, mm_in 670 (by decide +kernel) rfl, ⟨by decide +kernel, by decide +kernel, by decide +kernel⟩⟩
theorem cV_X0_81 : mm_cv RX0 81 mX0_tells 3 := ⟨mm_in 854 (by decide +kernel) rfl, mm_in 856 (by decide +kernel) rfl, mm_in 21 (by decide +kernel) rfl, mm_in 73 (by decide +kernel) rfl, mm_in 857 (by decide +kernel) rfl, ⟨by decide +kernel, by decide +kernel, by decide +kernel⟩⟩
theorem cV_X0_77 : mm_cv RX0 77 mX0_tellsAll 2 := ⟨mm_in 850 (by decide +kernel) rfl, mm_in 852 (by decide +kernel) rfl, mm_in 20 (by decide +kernel) rfl, mm_in 73 (by decide +kernel) rfl, mm_in 853 (by decide +kernel) rfl, ⟨by decide +kernel, by decide +kernel, by decide +kernel⟩⟩
theorem fG_X0_9 : mm_fld RX0 9 0 0 := ⟨_, TX0, 7, rfl, by decide, mm_in 315 (by decide +kernel) rfl, inX0⟩
theorem fP_X0_9 : mm_fldP RX0 9 0 0 .int false := ⟨_, TX0, 7, tyX0, rfl, by decide, mm_in 315 (by decide +kernel) rfl, inX0, tyX0_ok, nmX0, rfl, by decide +kernel⟩
theorem fP_X0_15 : mm_fldP RX0 15 0 1 .int false := ⟨_, TX0, 7, tyX0, rfl, by decide, mm_in 317 (by decide +kernel) rfl, inX0, tyX0_ok, nmX0, rfl, by decide +kernel⟩
theorem fP_X0_18 : mm_fldP RX0 18 0 2 .int false := ⟨_, TX0, 7, tyX0, rfl, by decide, mm_in 319 (by decide +kernel) rfl, inX0, tyX0_ok, nmX0, rfl, by decide +kernel⟩
theorem fP_X0_21 : mm_fldP RX0 21 0 3 .int false := ⟨_, TX0, 7, tyX0, rfl, by decide, mm_in 321 (by decide +kernel) rfl, inX0, tyX0_ok, nmX0, rfl, by decide +kernel⟩
theorem cV_X0_36 : mm_cv RX0 36 mX0_tellWindows 1 := ⟨mm_in 835 (by decide +kernel) rfl, mm_in 837 (by decide +kernel) rfl, mm_in 17 (by decide +kernel) rfl, mm_in 73 (by decide +kernel) rfl, mm_in 838 (by decide +kernel) rfl, ⟨by decide +kernel, by decide +kernel, by decide +kernel⟩⟩
theorem cV_X0_40 : mm_cv RX0 40 mX0_tellReadings 1 := ⟨mm_in 840 (by decide +kernel) rfl, mm_in 842 (by decide +kernel) rfl, mm_in 18 (by decide +kernel) rfl, mm_in 73 (by decide +kernel) rfl, mm_in 843 (by decide +kernel) rfl, ⟨by decide +kernel, by decide +kernel, by decide +kernel⟩⟩
theorem cV_X0_44 : mm_cv RX0 44 mX0_look 4 := ⟨mm_in 846 (by decide +kernel) rfl, mm_in 848 (by decide +kernel) rfl, mm_in 19 (by decide +kernel) rfl, mm_in 73 (by decide +kernel) rfl, mm_in 849 (by decide +kernel) rfl, ⟨by decide +kernel, by decide +kernel, by decide +kernel⟩⟩
theorem ks_299 : (Int16.ofInt (299)).toInt32 = 299 := by decide
theorem fG_X1_29 : mm_fld RX1 29 1 4 := ⟨_, TX1, 8, rfl, by decide, mm_in 270 (by decide +kernel) rfl, inX1⟩
theorem fG_X3_19 : mm_fld RX3 19 3 2 := ⟨_, TX3, 5, rfl, by decide, mm_in 243 (by decide +kernel) rfl, inX3⟩
theorem fG_X3_9 : mm_fld RX3 9 3 0 := ⟨_, TX3, 5, rfl, by decide, mm_in 241 (by decide +kernel) rfl, inX3⟩
theorem fG_X3_22 : mm_fld RX3 22 3 3 := ⟨_, TX3, 5, rfl, by decide, mm_in 244 (by decide +kernel) rfl, inX3⟩
theorem fP_X3_19 : mm_fldP RX3 19 3 2 .int false := ⟨_, TX3, 5, tyX3, rfl, by decide, mm_in 243 (by decide +kernel) rfl, inX3, tyX3_ok, nmX3, rfl, by decide +kernel⟩
theorem fG_X3_28 : mm_fld RX3 28 5 0 := ⟨_, TX5, 16, rfl, by decide, mm_in 97 (by decide +kernel) rfl, inX5⟩
theorem fP_X3_22 : mm_fldP RX3 22 3 3 .int false := ⟨_, TX3, 5, tyX3, rfl, by decide, mm_in 244 (by decide +kernel) rfl, inX3, tyX3_ok, nmX3, rfl, by decide +kernel⟩
theorem fG_X3_33 : mm_fld RX3 33 5 1 := ⟨_, TX5, 16, rfl, by decide, mm_in 100 (by decide +kernel) rfl, inX5⟩
theorem fP_X3_25 : mm_fldP RX3 25 3 4 .int false := ⟨_, TX3, 5, tyX3, rfl, by decide, mm_in 245 (by decide +kernel) rfl, inX3, tyX3_ok, nmX3, rfl, by decide +kernel⟩
theorem fP_X3_15 : mm_fldP RX3 15 3 1 .int false := ⟨_, TX3, 5, tyX3, rfl, by decide, mm_in 242 (by decide +kernel) rfl, inX3, tyX3_ok, nmX3, rfl, by decide +kernel⟩
theorem cV_X3_36 : mm_cv RX3 36 mX3_packFrom 2 := ⟨mm_in 698 (by decide +kernel) rfl, mm_in 700 (by decide +kernel) rfl, mm_in 10 (by decide +kernel) rfl, mm_in 71 (by decide +kernel) rfl, mm_in 701 (by decide +kernel) rfl, ⟨by decide +kernel, by decide +kernel, by decide +kernel⟩⟩
theorem cV_X3_40 : mm_cv RX3 40 mX3_mostToRight 1 := ⟨mm_in 702 (by decide +kernel) rfl, mm_in 703 (by decide +kernel) rfl, mm_in 704 (by decide +kernel) rfl, mm_in 71 (by decide +kernel) rfl, mm_in 705 (by decide +kernel) rfl, ⟨by decide +kernel, by decide +kernel, by decide +kernel⟩⟩
theorem fG_X5_21 : mm_fld RX5 21 5 3 := ⟨_, TX5, 16, rfl, by decide, mm_in 105 (by decide +kernel) rfl, inX5⟩
theorem fG_X5_40 : mm_fld RX5 40 5 9 := ⟨_, TX5, 16, rfl, by decide, mm_in 115 (by decide +kernel) rfl, inX5⟩
theorem fG_X5_30 : mm_fld RX5 30 5 6 := ⟨_, TX5, 16, rfl, by decide, mm_in 112 (by decide +kernel) rfl, inX5⟩
theorem fG_X5_43 : mm_fld RX5 43 5 10 := ⟨_, TX5, 16, rfl, by decide, mm_in 116 (by decide +kernel) rfl, inX5⟩
theorem fG_X5_47 : mm_fld RX5 47 5 11 := ⟨_, TX5, 16, rfl, by decide, mm_in 117 (by decide +kernel) rfl, inX5⟩
theorem cV_X5_89 : mm_cv RX5 89 mX5_ownerOf 1 := ⟨mm_in 451 (by decide +kernel) rfl, mm_in 452 (by decide +kernel) rfl, mm_in 453 (by decide +kernel) rfl, mm_in 67 (by decide +kernel) rfl, mm_in 454 (by decide +kernel) rfl, ⟨by decide +kernel, by decide +kernel, by decide +kernel⟩⟩
theorem fG_X5_34 : mm_fld RX5 34 5 7 := ⟨_, TX5, 16, rfl, by decide, mm_in 113 (by decide +kernel) rfl, inX5⟩
theorem cS_X5_112 : mm_cs RX5 112 mX5_painsOfTenant 3 := ⟨mm_in 500 (by decide +kernel) rfl, mm_in 501 (by decide +kernel) rfl, mm_in 67 (by decide +kernel) rfl, mm_in 502 (by decide +kernel) rfl, ⟨by decide +kernel, by decide +kernel, by decide +kernel⟩⟩
theorem cV_X5_101 : mm_cv RX5 101 mX5_isLit 2 := ⟨mm_in 478 (by decide +kernel) rfl, mm_in 479 (by decide +kernel) rfl, mm_in 480 (by decide +kernel) rfl, mm_in 67 (by decide +kernel) rfl, mm_in 481 (by decide +kernel) rfl, ⟨by decide +kernel, by decide +kernel, by decide +kernel⟩⟩
theorem fG_X1_32 : mm_fld RX1 32 1 5 := ⟨_, TX1, 8, rfl, by decide, mm_in 271 (by decide +kernel) rfl, inX1⟩
theorem cV_X1_122 : mm_cv RX1 122 mX5_painsOfChange 2 := ⟨mm_in 724 (by decide +kernel) rfl, mm_in 497 (by decide +kernel) rfl, mm_in 498 (by decide +kernel) rfl, mm_in 67 (by decide +kernel) rfl, mm_in 499 (by decide +kernel) rfl, ⟨by decide +kernel, by decide +kernel, by decide +kernel⟩⟩
theorem fG_X1_95 : mm_fld RX1 95 5 11 := ⟨_, TX5, 16, rfl, by decide, mm_in 119 (by decide +kernel) rfl, inX5⟩
theorem cN_X1_99 : mm_cn RX1 99 mX7_shapeIn 2 := ⟨⟨"LitWindows", List.mem_of_getElem? (i := 9) rfl⟩, mm_in 669 (by decide +kernel) rfl, mm_in 66 (by decide +kernel) rfl, mm_in 670 (by decide +kernel) rfl, ⟨by decide +kernel, by decide +kernel, by decide +kernel⟩⟩
theorem ks_4095 : (Int16.ofInt (4095)).toInt32 = 4095 := by decide
theorem cV_X1_103 : mm_cv RX1 103 mX1_tellCells 3 := ⟨mm_in 720 (by decide +kernel) rfl, mm_in 722 (by decide +kernel) rfl, mm_in 13 (by decide +kernel) rfl, mm_in 70 (by decide +kernel) rfl, mm_in 723 (by decide +kernel) rfl, ⟨by decide +kernel, by decide +kernel, by decide +kernel⟩⟩
theorem kC_X1_60 : Cond.constant RX1 60 (1000000) ∈ mm_big := mm_in 725 (by decide +kernel) rfl
theorem fG_X1_37 : mm_fld RX1 37 1 6 := ⟨_, TX1, 8, rfl, by decide, mm_in 272 (by decide +kernel) rfl, inX1⟩
theorem fG_X1_40 : mm_fld RX1 40 1 7 := ⟨_, TX1, 8, rfl, by decide, mm_in 273 (by decide +kernel) rfl, inX1⟩
theorem ki_0_3 : vp_in (0 : Int32) 3 := mm_ib_in (by decide +kernel)
theorem kt_0 : (0 : Int32).toNatClampNeg = 0 := by decide +kernel
theorem ki_1_3 : vp_in (1 : Int32) 3 := mm_ib_in (by decide +kernel)
theorem kt_1 : (1 : Int32).toNatClampNeg = 1 := by decide +kernel
theorem ki_2_3 : vp_in (2 : Int32) 3 := mm_ib_in (by decide +kernel)
theorem kt_2 : (2 : Int32).toNatClampNeg = 2 := by decide +kernel
theorem cS_X1_107 : mm_cs RX1 107 mJ6_bitCount_0f7a4 1 := ⟨mm_in 726 (by decide +kernel) rfl, mm_in 651 (by decide +kernel) rfl, mm_in 80 (by decide +kernel) rfl, mm_in 652 (by decide +kernel) rfl, ⟨by decide +kernel, by decide +kernel, by decide +kernel⟩⟩
theorem fG_X1_112 : mm_fld RX1 112 5 2 := ⟨_, TX5, 16, rfl, by decide, mm_in 104 (by decide +kernel) rfl, inX5⟩
theorem fG_X1_115 : mm_fld RX1 115 5 12 := ⟨_, TX5, 16, rfl, by decide, mm_in 124 (by decide +kernel) rfl, inX5⟩
theorem cV_X1_116 : mm_cv RX1 116 mX1_painsOfCells 1 := ⟨mm_in 727 (by decide +kernel) rfl, mm_in 729 (by decide +kernel) rfl, mm_in 14 (by decide +kernel) rfl, mm_in 70 (by decide +kernel) rfl, mm_in 730 (by decide +kernel) rfl, ⟨by decide +kernel, by decide +kernel, by decide +kernel⟩⟩
theorem cV_X1_119 : mm_cv RX1 119 mX5_readAs 1 := ⟨mm_in 731 (by decide +kernel) rfl, mm_in 647 (by decide +kernel) rfl, mm_in 648 (by decide +kernel) rfl, mm_in 67 (by decide +kernel) rfl, mm_in 649 (by decide +kernel) rfl, ⟨by decide +kernel, by decide +kernel, by decide +kernel⟩⟩
theorem fG_X1_73 : mm_fld RX1 73 6 2 := ⟨_, TX6, 3, rfl, by decide, mm_in 220 (by decide +kernel) rfl, inX6⟩
theorem cV_X1_76 : mm_cv RX1 76 mX5_changeable 3 := ⟨mm_in 710 (by decide +kernel) rfl, mm_in 711 (by decide +kernel) rfl, mm_in 712 (by decide +kernel) rfl, mm_in 67 (by decide +kernel) rfl, mm_in 713 (by decide +kernel) rfl, ⟨by decide +kernel, by decide +kernel, by decide +kernel⟩⟩
theorem fG_X1_47 : mm_fld RX1 47 6 1 := ⟨_, TX6, 3, rfl, by decide, mm_in 215 (by decide +kernel) rfl, inX6⟩
theorem fG_X1_82 : mm_fld RX1 82 5 1 := ⟨_, TX5, 16, rfl, by decide, mm_in 101 (by decide +kernel) rfl, inX5⟩
theorem fG_X1_25 : mm_fld RX1 25 1 3 := ⟨_, TX1, 8, rfl, by decide, mm_in 269 (by decide +kernel) rfl, inX1⟩
theorem cV_X1_85 : mm_cv RX1 85 mX3_mostToRight 1 := ⟨mm_in 714 (by decide +kernel) rfl, mm_in 703 (by decide +kernel) rfl, mm_in 704 (by decide +kernel) rfl, mm_in 71 (by decide +kernel) rfl, mm_in 705 (by decide +kernel) rfl, ⟨by decide +kernel, by decide +kernel, by decide +kernel⟩⟩
theorem fG_X1_88 : mm_fld RX1 88 6 0 := ⟨_, TX6, 3, rfl, by decide, mm_in 210 (by decide +kernel) rfl, inX6⟩
theorem cV_X1_91 : mm_cv RX1 91 mX1_shapeBox 6 := ⟨mm_in 715 (by decide +kernel) rfl, mm_in 717 (by decide +kernel) rfl, mm_in 12 (by decide +kernel) rfl, mm_in 70 (by decide +kernel) rfl, mm_in 718 (by decide +kernel) rfl, ⟨by decide +kernel, by decide +kernel, by decide +kernel⟩⟩
theorem fG_X3_15 : mm_fld RX3 15 3 1 := ⟨_, TX3, 5, rfl, by decide, mm_in 242 (by decide +kernel) rfl, inX3⟩
theorem fG_X1_15 : mm_fld RX1 15 1 1 := ⟨_, TX1, 8, rfl, by decide, mm_in 265 (by decide +kernel) rfl, inX1⟩
theorem cV_X1_61 : mm_cv RX1 61 mX3_window 1 := ⟨mm_in 732 (by decide +kernel) rfl, mm_in 733 (by decide +kernel) rfl, mm_in 734 (by decide +kernel) rfl, mm_in 71 (by decide +kernel) rfl, mm_in 735 (by decide +kernel) rfl, ⟨by decide +kernel, by decide +kernel, by decide +kernel⟩⟩
theorem fG_X1_19 : mm_fld RX1 19 1 2 := ⟨_, TX1, 8, rfl, by decide, mm_in 267 (by decide +kernel) rfl, inX1⟩
theorem fG_X3_25 : mm_fld RX3 25 3 4 := ⟨_, TX3, 5, rfl, by decide, mm_in 245 (by decide +kernel) rfl, inX3⟩
theorem fP_X1_9 : mm_fldP RX1 9 1 0 .int false := ⟨_, TX1, 8, tyX1, rfl, by decide, mm_in 263 (by decide +kernel) rfl, inX1, tyX1_ok, nmX1, rfl, by decide +kernel⟩
theorem cV_X1_52 : mm_cv RX1 52 mX3_begin 2 := ⟨mm_in 694 (by decide +kernel) rfl, mm_in 695 (by decide +kernel) rfl, mm_in 696 (by decide +kernel) rfl, mm_in 71 (by decide +kernel) rfl, mm_in 697 (by decide +kernel) rfl, ⟨by decide +kernel, by decide +kernel, by decide +kernel⟩⟩
theorem cV_X1_56 : mm_cv RX1 56 mX1_shapeAllBoxes 3 := ⟨mm_in 706 (by decide +kernel) rfl, mm_in 708 (by decide +kernel) rfl, mm_in 11 (by decide +kernel) rfl, mm_in 70 (by decide +kernel) rfl, mm_in 709 (by decide +kernel) rfl, ⟨by decide +kernel, by decide +kernel, by decide +kernel⟩⟩
theorem kb_42 : (Int8.ofInt (42)).toInt32 = 42 := by decide
theorem cV_X1_69 : mm_cv RX1 69 mX3_goOn 0 := ⟨mm_in 740 (by decide +kernel) rfl, mm_in 741 (by decide +kernel) rfl, mm_in 742 (by decide +kernel) rfl, mm_in 71 (by decide +kernel) rfl, mm_in 743 (by decide +kernel) rfl, ⟨by decide +kernel, by decide +kernel, by decide +kernel⟩⟩
theorem cV_X1_65 : mm_cv RX1 65 mX1_keepPlace 1 := ⟨mm_in 736 (by decide +kernel) rfl, mm_in 738 (by decide +kernel) rfl, mm_in 15 (by decide +kernel) rfl, mm_in 70 (by decide +kernel) rfl, mm_in 739 (by decide +kernel) rfl, ⟨by decide +kernel, by decide +kernel, by decide +kernel⟩⟩
theorem fG_X2_26 : mm_fld RX2 26 6 1 := ⟨_, TX6, 3, rfl, by decide, mm_in 214 (by decide +kernel) rfl, inX6⟩
theorem fG_X2_22 : mm_fld RX2 22 2 2 := ⟨_, TX2, 3, rfl, by decide, mm_in 301 (by decide +kernel) rfl, inX2⟩
theorem cV_X2_57 : mm_cv RX2 57 mX3_window 1 := ⟨mm_in 762 (by decide +kernel) rfl, mm_in 733 (by decide +kernel) rfl, mm_in 734 (by decide +kernel) rfl, mm_in 71 (by decide +kernel) rfl, mm_in 735 (by decide +kernel) rfl, ⟨by decide +kernel, by decide +kernel, by decide +kernel⟩⟩
theorem cN_X2_61 : mm_cn RX2 61 mX7_windowsOf 2 := ⟨⟨"LitWindows", List.mem_of_getElem? (i := 10) rfl⟩, mm_in 764 (by decide +kernel) rfl, mm_in 66 (by decide +kernel) rfl, mm_in 765 (by decide +kernel) rfl, ⟨by decide +kernel, by decide +kernel, by decide +kernel⟩⟩
theorem kC_X2_51 : Cond.constantLong RX2 51 (-1) ∈ mm_big := mm_in 766 (by decide +kernel) rfl
theorem fG_X2_65 : mm_fld RX2 65 5 12 := ⟨_, TX5, 16, rfl, by decide, mm_in 122 (by decide +kernel) rfl, inX5⟩
theorem fG_X2_69 : mm_fld RX2 69 6 0 := ⟨_, TX6, 3, rfl, by decide, mm_in 209 (by decide +kernel) rfl, inX6⟩
theorem fP_X2_15 : mm_fldP RX2 15 2 1 .int false := ⟨_, TX2, 3, tyX2, rfl, by decide, mm_in 300 (by decide +kernel) rfl, inX2, tyX2_ok, nmX2, rfl, by decide +kernel⟩
theorem cV_X2_31 : mm_cv RX2 31 mX3_begin 2 := ⟨mm_in 756 (by decide +kernel) rfl, mm_in 695 (by decide +kernel) rfl, mm_in 696 (by decide +kernel) rfl, mm_in 71 (by decide +kernel) rfl, mm_in 697 (by decide +kernel) rfl, ⟨by decide +kernel, by decide +kernel, by decide +kernel⟩⟩
theorem fG_X2_35 : mm_fld RX2 35 6 2 := ⟨_, TX6, 3, rfl, by decide, mm_in 219 (by decide +kernel) rfl, inX6⟩
theorem cV_X2_38 : mm_cv RX2 38 mX5_changeable 3 := ⟨mm_in 757 (by decide +kernel) rfl, mm_in 711 (by decide +kernel) rfl, mm_in 712 (by decide +kernel) rfl, mm_in 67 (by decide +kernel) rfl, mm_in 713 (by decide +kernel) rfl, ⟨by decide +kernel, by decide +kernel, by decide +kernel⟩⟩
theorem fG_X2_44 : mm_fld RX2 44 5 11 := ⟨_, TX5, 16, rfl, by decide, mm_in 118 (by decide +kernel) rfl, inX5⟩
theorem cV_X2_47 : mm_cv RX2 47 mX2_picture 3 := ⟨mm_in 758 (by decide +kernel) rfl, mm_in 760 (by decide +kernel) rfl, mm_in 16 (by decide +kernel) rfl, mm_in 72 (by decide +kernel) rfl, mm_in 761 (by decide +kernel) rfl, ⟨by decide +kernel, by decide +kernel, by decide +kernel⟩⟩
theorem cV_X2_53 : mm_cv RX2 53 mX3_goOn 0 := ⟨mm_in 767 (by decide +kernel) rfl, mm_in 741 (by decide +kernel) rfl, mm_in 742 (by decide +kernel) rfl, mm_in 71 (by decide +kernel) rfl, mm_in 743 (by decide +kernel) rfl, ⟨by decide +kernel, by decide +kernel, by decide +kernel⟩⟩
theorem fG_X2_15 : mm_fld RX2 15 2 1 := ⟨_, TX2, 3, rfl, by decide, mm_in 300 (by decide +kernel) rfl, inX2⟩
theorem fG_X2_9 : mm_fld RX2 9 2 0 := ⟨_, TX2, 3, rfl, by decide, mm_in 299 (by decide +kernel) rfl, inX2⟩
theorem kC_J13_314 : Cond.constantLong RJ13 314 (6148914691236517205) ∈ mm_big := mm_in 775 (by decide +kernel) rfl
theorem kC_J13_316 : Cond.constantLong RJ13 316 (3689348814741910323) ∈ mm_big := mm_in 776 (by decide +kernel) rfl
theorem kC_J13_318 : Cond.constantLong RJ13 318 (1085102592571150095) ∈ mm_big := mm_in 777 (by decide +kernel) rfl
theorem kb_32 : (Int8.ofInt (32)).toInt32 = 32 := by decide
theorem kb_127 : (Int8.ofInt (127)).toInt32 = 127 := by decide
theorem cS_X2_72 : mm_cs RX2 72 mJ13_bitCount_95d88 1 := ⟨mm_in 772 (by decide +kernel) rfl, mm_in 773 (by decide +kernel) rfl, mm_in 81 (by decide +kernel) rfl, mm_in 774 (by decide +kernel) rfl, ⟨by decide +kernel, by decide +kernel, by decide +kernel⟩⟩
theorem kb_m2 : (Int8.ofInt (-2)).toInt32 = -2 := by decide
theorem fG_X4_9 : mm_fld RX4 9 4 0 := ⟨_, TX4, 9, rfl, by decide, mm_in 172 (by decide +kernel) rfl, inX4⟩
theorem ks_200 : (Int16.ofInt (200)).toInt32 = 200 := by decide
theorem fG_X4_18 : mm_fld RX4 18 4 2 := ⟨_, TX4, 9, rfl, by decide, mm_in 176 (by decide +kernel) rfl, inX4⟩
theorem kC_X4_40 : Cond.constantLong RX4 40 (255) ∈ mm_big := mm_in 511 (by decide +kernel) rfl
theorem fP_X4_9 : mm_fldP RX4 9 4 0 .int false := ⟨_, TX4, 9, tyX4, rfl, by decide, mm_in 172 (by decide +kernel) rfl, inX4, tyX4_ok, nmX4, rfl, by decide +kernel⟩
theorem kb_m4 : (Int8.ofInt (-4)).toInt32 = -4 := by decide
theorem kb_48 : (Int8.ofInt (48)).toInt32 = 48 := by decide
theorem kb_57 : (Int8.ofInt (57)).toInt32 = 57 := by decide
theorem fP_X4_37 : mm_fldP RX4 37 4 8 .int false := ⟨_, TX4, 9, tyX4, rfl, by decide, mm_in 182 (by decide +kernel) rfl, inX4, tyX4_ok, nmX4, rfl, by decide +kernel⟩
theorem fG_X4_28 : mm_fld RX4 28 4 5 := ⟨_, TX4, 9, rfl, by decide, mm_in 179 (by decide +kernel) rfl, inX4⟩
theorem fG_X4_34 : mm_fld RX4 34 4 7 := ⟨_, TX4, 9, rfl, by decide, mm_in 181 (by decide +kernel) rfl, inX4⟩
theorem fP_X4_31 : mm_fldP RX4 31 4 6 .int false := ⟨_, TX4, 9, tyX4, rfl, by decide, mm_in 180 (by decide +kernel) rfl, inX4, tyX4_ok, nmX4, rfl, by decide +kernel⟩
theorem cS_X4_53 : mm_cs RX4 53 mX4_isFigure 1 := ⟨mm_in 532 (by decide +kernel) rfl, mm_in 533 (by decide +kernel) rfl, mm_in 68 (by decide +kernel) rfl, mm_in 534 (by decide +kernel) rfl, ⟨by decide +kernel, by decide +kernel, by decide +kernel⟩⟩
theorem fP_X4_28 : mm_fldP RX4 28 4 5 .int false := ⟨_, TX4, 9, tyX4, rfl, by decide, mm_in 179 (by decide +kernel) rfl, inX4, tyX4_ok, nmX4, rfl, by decide +kernel⟩
theorem kb_10 : (Int8.ofInt (10)).toInt32 = 10 := by decide
theorem fG_X4_37 : mm_fld RX4 37 4 8 := ⟨_, TX4, 9, rfl, by decide, mm_in 182 (by decide +kernel) rfl, inX4⟩
theorem kb_97 : (Int8.ofInt (97)).toInt32 = 97 := by decide
theorem kb_122 : (Int8.ofInt (122)).toInt32 = 122 := by decide
theorem cV_X4_73 : mm_cv RX4 73 mJ0_length_8abf5 0 := ⟨mm_in 559 (by decide +kernel) rfl, mm_in 560 (by decide +kernel) rfl, mm_in 561 (by decide +kernel) rfl, mm_in 75 (by decide +kernel) rfl, mm_in 562 (by decide +kernel) rfl, ⟨by decide +kernel, by decide +kernel, by decide +kernel⟩⟩
theorem cV_X4_78 : mm_cv RX4 78 mJ0_charAt_5068e 1 := ⟨mm_in 569 (by decide +kernel) rfl, mm_in 570 (by decide +kernel) rfl, mm_in 571 (by decide +kernel) rfl, mm_in 75 (by decide +kernel) rfl, mm_in 572 (by decide +kernel) rfl, ⟨by decide +kernel, by decide +kernel, by decide +kernel⟩⟩
theorem kb_6 : (Int8.ofInt (6)).toInt32 = 6 := by decide
theorem cS_X4_65 : mm_cs RX4 65 mX4_wordOf 1 := ⟨mm_in 546 (by decide +kernel) rfl, mm_in 547 (by decide +kernel) rfl, mm_in 68 (by decide +kernel) rfl, mm_in 548 (by decide +kernel) rfl, ⟨by decide +kernel, by decide +kernel, by decide +kernel⟩⟩
theorem cV_X4_69 : mm_cv RX4 69 mX4_isTokenText 1 := ⟨mm_in 555 (by decide +kernel) rfl, mm_in 557 (by decide +kernel) rfl, mm_in 6 (by decide +kernel) rfl, mm_in 68 (by decide +kernel) rfl, mm_in 558 (by decide +kernel) rfl, ⟨by decide +kernel, by decide +kernel, by decide +kernel⟩⟩
theorem cS_X4_59 : mm_cs RX4 59 mX4_isSmallLetter 1 := ⟨mm_in 539 (by decide +kernel) rfl, mm_in 540 (by decide +kernel) rfl, mm_in 68 (by decide +kernel) rfl, mm_in 541 (by decide +kernel) rfl, ⟨by decide +kernel, by decide +kernel, by decide +kernel⟩⟩
theorem fP_X4_34 : mm_fldP RX4 34 4 7 .int false := ⟨_, TX4, 9, tyX4, rfl, by decide, mm_in 181 (by decide +kernel) rfl, inX4, tyX4_ok, nmX4, rfl, by decide +kernel⟩
theorem kb_59 : (Int8.ofInt (59)).toInt32 = 59 := by decide
theorem cV_X4_62 : mm_cv RX4 62 mX4_takeWord 0 := ⟨mm_in 542 (by decide +kernel) rfl, mm_in 544 (by decide +kernel) rfl, mm_in 5 (by decide +kernel) rfl, mm_in 68 (by decide +kernel) rfl, mm_in 545 (by decide +kernel) rfl, ⟨by decide +kernel, by decide +kernel, by decide +kernel⟩⟩
theorem cV_X4_56 : mm_cv RX4 56 mX4_takeNumber 0 := ⟨mm_in 535 (by decide +kernel) rfl, mm_in 537 (by decide +kernel) rfl, mm_in 4 (by decide +kernel) rfl, mm_in 68 (by decide +kernel) rfl, mm_in 538 (by decide +kernel) rfl, ⟨by decide +kernel, by decide +kernel, by decide +kernel⟩⟩
theorem fG_X4_22 : mm_fld RX4 22 4 3 := ⟨_, TX4, 9, rfl, by decide, mm_in 177 (by decide +kernel) rfl, inX4⟩
theorem fG_X4_15 : mm_fld RX4 15 4 1 := ⟨_, TX4, 9, rfl, by decide, mm_in 174 (by decide +kernel) rfl, inX4⟩
theorem cS_X4_49 : mm_cs RX4 49 mX4_numbersOf 1 := ⟨mm_in 611 (by decide +kernel) rfl, mm_in 612 (by decide +kernel) rfl, mm_in 68 (by decide +kernel) rfl, mm_in 613 (by decide +kernel) rfl, ⟨by decide +kernel, by decide +kernel, by decide +kernel⟩⟩
theorem cV_X4_42 : mm_cv RX4 42 mX4_takeToken 0 := ⟨mm_in 528 (by decide +kernel) rfl, mm_in 530 (by decide +kernel) rfl, mm_in 3 (by decide +kernel) rfl, mm_in 68 (by decide +kernel) rfl, mm_in 531 (by decide +kernel) rfl, ⟨by decide +kernel, by decide +kernel, by decide +kernel⟩⟩
theorem fG_X4_31 : mm_fld RX4 31 4 6 := ⟨_, TX4, 9, rfl, by decide, mm_in 180 (by decide +kernel) rfl, inX4⟩
theorem fG_X4_25 : mm_fld RX4 25 4 4 := ⟨_, TX4, 9, rfl, by decide, mm_in 178 (by decide +kernel) rfl, inX4⟩
theorem fP_X4_15 : mm_fldP RX4 15 4 1 .int false := ⟨_, TX4, 9, tyX4, rfl, by decide, mm_in 174 (by decide +kernel) rfl, inX4, tyX4_ok, nmX4, rfl, by decide +kernel⟩
theorem kb_100 : (Int8.ofInt (100)).toInt32 = 100 := by decide
theorem cV_X4_45 : mm_cv RX4 45 mX4_takeItem 1 := ⟨mm_in 607 (by decide +kernel) rfl, mm_in 609 (by decide +kernel) rfl, mm_in 7 (by decide +kernel) rfl, mm_in 68 (by decide +kernel) rfl, mm_in 610 (by decide +kernel) rfl, ⟨by decide +kernel, by decide +kernel, by decide +kernel⟩⟩
theorem fP_X5_9 : mm_fldP RX5 9 5 0 .int false := ⟨_, TX5, 16, tyX5, rfl, by decide, mm_in 96 (by decide +kernel) rfl, inX5, tyX5_ok, nmX5, rfl, by decide +kernel⟩
theorem fP_X5_15 : mm_fldP RX5 15 5 1 .int false := ⟨_, TX5, 16, tyX5, rfl, by decide, mm_in 99 (by decide +kernel) rfl, inX5, tyX5_ok, nmX5, rfl, by decide +kernel⟩
theorem fP_X5_18 : mm_fldP RX5 18 5 2 .int false := ⟨_, TX5, 16, tyX5, rfl, by decide, mm_in 103 (by decide +kernel) rfl, inX5, tyX5_ok, nmX5, rfl, by decide +kernel⟩
theorem fP_X5_21 : mm_fldP RX5 21 5 3 .int false := ⟨_, TX5, 16, tyX5, rfl, by decide, mm_in 105 (by decide +kernel) rfl, inX5, tyX5_ok, nmX5, rfl, by decide +kernel⟩
theorem fP_X5_24 : mm_fldP RX5 24 5 4 .int false := ⟨_, TX5, 16, tyX5, rfl, by decide, mm_in 107 (by decide +kernel) rfl, inX5, tyX5_ok, nmX5, rfl, by decide +kernel⟩
theorem fP_X5_27 : mm_fldP RX5 27 5 5 .int false := ⟨_, TX5, 16, tyX5, rfl, by decide, mm_in 109 (by decide +kernel) rfl, inX5, tyX5_ok, nmX5, rfl, by decide +kernel⟩
theorem ki_5 : Int32.ofInt (5) = 5 := by decide
theorem cV_X5_79 : mm_cv RX5 79 mX5_beAnew 2 := ⟨mm_in 399 (by decide +kernel) rfl, mm_in 400 (by decide +kernel) rfl, mm_in 401 (by decide +kernel) rfl, mm_in 67 (by decide +kernel) rfl, mm_in 402 (by decide +kernel) rfl, ⟨by decide +kernel, by decide +kernel, by decide +kernel⟩⟩
theorem kb_9 : (Int8.ofInt (9)).toInt32 = 9 := by decide
theorem kb_99 : (Int8.ofInt (99)).toInt32 = 99 := by decide
theorem fG_X5_37 : mm_fld RX5 37 5 8 := ⟨_, TX5, 16, rfl, by decide, mm_in 114 (by decide +kernel) rfl, inX5⟩
theorem cN_X5_95 : mm_cn RX5 95 mX7_isShape 1 := ⟨⟨"LitWindows", List.mem_of_getElem? (i := 7) rfl⟩, mm_in 465 (by decide +kernel) rfl, mm_in 66 (by decide +kernel) rfl, mm_in 466 (by decide +kernel) rfl, ⟨by decide +kernel, by decide +kernel, by decide +kernel⟩⟩
theorem cV_X5_72 : mm_cv RX5 72 mX5_isWindow 1 := ⟨mm_in 443 (by decide +kernel) rfl, mm_in 444 (by decide +kernel) rfl, mm_in 445 (by decide +kernel) rfl, mm_in 67 (by decide +kernel) rfl, mm_in 446 (by decide +kernel) rfl, ⟨by decide +kernel, by decide +kernel, by decide +kernel⟩⟩
theorem kC_X5_93 : Cond.constantLong RX5 93 (-1) ∈ mm_big := mm_in 455 (by decide +kernel) rfl
theorem cV_X5_83 : mm_cv RX5 83 mX5_isTenant 1 := ⟨mm_in 423 (by decide +kernel) rfl, mm_in 424 (by decide +kernel) rfl, mm_in 425 (by decide +kernel) rfl, mm_in 67 (by decide +kernel) rfl, mm_in 426 (by decide +kernel) rfl, ⟨by decide +kernel, by decide +kernel, by decide +kernel⟩⟩
theorem cN_X5_98 : mm_cn RX5 98 mX7_isHour 1 := ⟨⟨"LitWindows", List.mem_of_getElem? (i := 8) rfl⟩, mm_in 476 (by decide +kernel) rfl, mm_in 66 (by decide +kernel) rfl, mm_in 477 (by decide +kernel) rfl, ⟨by decide +kernel, by decide +kernel, by decide +kernel⟩⟩
theorem kb_m3 : (Int8.ofInt (-3)).toInt32 = -3 := by decide
theorem cV_X4_98 : mm_cv RX4 98 mX5_setSize 2 := ⟨mm_in 623 (by decide +kernel) rfl, mm_in 396 (by decide +kernel) rfl, mm_in 397 (by decide +kernel) rfl, mm_in 67 (by decide +kernel) rfl, mm_in 398 (by decide +kernel) rfl, ⟨by decide +kernel, by decide +kernel, by decide +kernel⟩⟩
theorem cV_X4_104 : mm_cv RX4 104 mX5_addTenant 3 := ⟨mm_in 624 (by decide +kernel) rfl, mm_in 412 (by decide +kernel) rfl, mm_in 413 (by decide +kernel) rfl, mm_in 67 (by decide +kernel) rfl, mm_in 414 (by decide +kernel) rfl, ⟨by decide +kernel, by decide +kernel, by decide +kernel⟩⟩
theorem cV_X4_114 : mm_cv RX4 114 mX5_isWindowAt 2 := ⟨mm_in 627 (by decide +kernel) rfl, mm_in 448 (by decide +kernel) rfl, mm_in 449 (by decide +kernel) rfl, mm_in 67 (by decide +kernel) rfl, mm_in 450 (by decide +kernel) rfl, ⟨by decide +kernel, by decide +kernel, by decide +kernel⟩⟩
theorem cV_X4_121 : mm_cv RX4 121 mX5_setLit 3 := ⟨mm_in 629 (by decide +kernel) rfl, mm_in 472 (by decide +kernel) rfl, mm_in 473 (by decide +kernel) rfl, mm_in 67 (by decide +kernel) rfl, mm_in 474 (by decide +kernel) rfl, ⟨by decide +kernel, by decide +kernel, by decide +kernel⟩⟩
theorem cV_X4_118 : mm_cv RX4 118 mX5_setOwner 2 := ⟨mm_in 628 (by decide +kernel) rfl, mm_in 440 (by decide +kernel) rfl, mm_in 441 (by decide +kernel) rfl, mm_in 67 (by decide +kernel) rfl, mm_in 442 (by decide +kernel) rfl, ⟨by decide +kernel, by decide +kernel, by decide +kernel⟩⟩
theorem cV_X4_108 : mm_cv RX4 108 mX5_addLetter 1 := ⟨mm_in 625 (by decide +kernel) rfl, mm_in 461 (by decide +kernel) rfl, mm_in 462 (by decide +kernel) rfl, mm_in 67 (by decide +kernel) rfl, mm_in 463 (by decide +kernel) rfl, ⟨by decide +kernel, by decide +kernel, by decide +kernel⟩⟩
theorem cV_X4_111 : mm_cv RX4 111 mX5_setSlack 1 := ⟨mm_in 626 (by decide +kernel) rfl, mm_in 487 (by decide +kernel) rfl, mm_in 488 (by decide +kernel) rfl, mm_in 67 (by decide +kernel) rfl, mm_in 489 (by decide +kernel) rfl, ⟨by decide +kernel, by decide +kernel, by decide +kernel⟩⟩
theorem cV_X4_94 : mm_cv RX4 94 mX4_tellItem 3 := ⟨mm_in 619 (by decide +kernel) rfl, mm_in 621 (by decide +kernel) rfl, mm_in 8 (by decide +kernel) rfl, mm_in 68 (by decide +kernel) rfl, mm_in 622 (by decide +kernel) rfl, ⟨by decide +kernel, by decide +kernel, by decide +kernel⟩⟩
theorem fG_X5_27 : mm_fld RX5 27 5 5 := ⟨_, TX5, 16, rfl, by decide, mm_in 109 (by decide +kernel) rfl, inX5⟩
theorem cA_X5_62 : Cond.methodLink RX5 62 arraycopyName ∈ mm_big ∧ Cond.native arraycopyName ∈ mm_big ∧ Cond.static arraycopyName ∈ mm_big ∧ Cond.initialized "java/lang/System" ∈ mm_big := ⟨mm_in 634 (by decide +kernel) rfl, mm_in 636 (by decide +kernel) rfl, mm_in 635 (by decide +kernel) rfl, mm_in 79 (by decide +kernel) rfl⟩
theorem kt_6 : (6 : Int32).toNatClampNeg = 6 := by decide +kernel
theorem kt_4 : (4 : Int32).toNatClampNeg = 4 := by decide +kernel
theorem fG_X5_53 : mm_fld RX5 53 5 13 := ⟨_, TX5, 16, rfl, by decide, mm_in 125 (by decide +kernel) rfl, inX5⟩
theorem fG_X5_56 : mm_fld RX5 56 5 14 := ⟨_, TX5, 16, rfl, by decide, mm_in 127 (by decide +kernel) rfl, inX5⟩
theorem fG_X5_59 : mm_fld RX5 59 5 15 := ⟨_, TX5, 16, rfl, by decide, mm_in 129 (by decide +kernel) rfl, inX5⟩
theorem cV_X5_76 : mm_cv RX5 76 mX5_isTop 1 := ⟨mm_in 664 (by decide +kernel) rfl, mm_in 665 (by decide +kernel) rfl, mm_in 666 (by decide +kernel) rfl, mm_in 67 (by decide +kernel) rfl, mm_in 667 (by decide +kernel) rfl, ⟨by decide +kernel, by decide +kernel, by decide +kernel⟩⟩
theorem cV_X5_86 : mm_cv RX5 86 mX5_isLetter 1 := ⟨mm_in 427 (by decide +kernel) rfl, mm_in 428 (by decide +kernel) rfl, mm_in 429 (by decide +kernel) rfl, mm_in 67 (by decide +kernel) rfl, mm_in 430 (by decide +kernel) rfl, ⟨by decide +kernel, by decide +kernel, by decide +kernel⟩⟩
theorem cV_X5_104 : mm_cv RX5 104 mX5_isBox 1 := ⟨mm_in 822 (by decide +kernel) rfl, mm_in 661 (by decide +kernel) rfl, mm_in 662 (by decide +kernel) rfl, mm_in 67 (by decide +kernel) rfl, mm_in 663 (by decide +kernel) rfl, ⟨by decide +kernel, by decide +kernel, by decide +kernel⟩⟩
theorem cN_X5_116 : mm_cn RX5 116 mX7_shapeIn 2 := ⟨⟨"LitWindows", List.mem_of_getElem? (i := 11) rfl⟩, mm_in 669 (by decide +kernel) rfl, mm_in 66 (by decide +kernel) rfl, mm_in 670 (by decide +kernel) rfl, ⟨by decide +kernel, by decide +kernel, by decide +kernel⟩⟩
theorem cV_X5_120 : mm_cv RX5 120 mX5_readAs 1 := ⟨mm_in 804 (by decide +kernel) rfl, mm_in 647 (by decide +kernel) rfl, mm_in 648 (by decide +kernel) rfl, mm_in 67 (by decide +kernel) rfl, mm_in 649 (by decide +kernel) rfl, ⟨by decide +kernel, by decide +kernel, by decide +kernel⟩⟩
theorem cV_X5_123 : mm_cv RX5 123 mX5_fits 4 := ⟨mm_in 799 (by decide +kernel) rfl, mm_in 800 (by decide +kernel) rfl, mm_in 801 (by decide +kernel) rfl, mm_in 67 (by decide +kernel) rfl, mm_in 802 (by decide +kernel) rfl, ⟨by decide +kernel, by decide +kernel, by decide +kernel⟩⟩
theorem fG_X5_131 : mm_fld RX5 131 6 1 := ⟨_, TX6, 3, rfl, by decide, mm_in 217 (by decide +kernel) rfl, inX6⟩
theorem fG_X5_136 : mm_fld RX5 136 6 0 := ⟨_, TX6, 3, rfl, by decide, mm_in 212 (by decide +kernel) rfl, inX6⟩
theorem cV_X5_138 : mm_cv RX5 138 mX5_firstColumn 5 := ⟨mm_in 795 (by decide +kernel) rfl, mm_in 796 (by decide +kernel) rfl, mm_in 797 (by decide +kernel) rfl, mm_in 67 (by decide +kernel) rfl, mm_in 798 (by decide +kernel) rfl, ⟨by decide +kernel, by decide +kernel, by decide +kernel⟩⟩
theorem cV_X5_127 : mm_cv RX5 127 mX5_canBeSaidAt 4 := ⟨mm_in 791 (by decide +kernel) rfl, mm_in 792 (by decide +kernel) rfl, mm_in 793 (by decide +kernel) rfl, mm_in 67 (by decide +kernel) rfl, mm_in 794 (by decide +kernel) rfl, ⟨by decide +kernel, by decide +kernel, by decide +kernel⟩⟩
theorem kC_X5_142 : Cond.constantLong RX5 142 (31) ∈ mm_big := mm_in 897 (by decide +kernel) rfl
theorem cV_X5_144 : mm_cv RX5 144 mX5_digestOfWindow 2 := ⟨mm_in 898 (by decide +kernel) rfl, mm_in 899 (by decide +kernel) rfl, mm_in 900 (by decide +kernel) rfl, mm_in 67 (by decide +kernel) rfl, mm_in 901 (by decide +kernel) rfl, ⟨by decide +kernel, by decide +kernel, by decide +kernel⟩⟩
theorem ks_666 : (Int16.ofInt (666)).toInt32 = 666 := by decide
theorem fP_X6_15 : mm_fldP RX6 15 6 1 .int false := ⟨_, TX6, 3, tyX6, rfl, by decide, mm_in 213 (by decide +kernel) rfl, inX6, tyX6_ok, nmX6, rfl, by decide +kernel⟩
theorem fP_X6_19 : mm_fldP RX6 19 6 2 .int false := ⟨_, TX6, 3, tyX6, rfl, by decide, mm_in 218 (by decide +kernel) rfl, inX6, tyX6_ok, nmX6, rfl, by decide +kernel⟩
theorem fG_X6_15 : mm_fld RX6 15 6 1 := ⟨_, TX6, 3, rfl, by decide, mm_in 213 (by decide +kernel) rfl, inX6⟩
theorem fG_X6_9 : mm_fld RX6 9 6 0 := ⟨_, TX6, 3, rfl, by decide, mm_in 208 (by decide +kernel) rfl, inX6⟩
theorem fG_X6_19 : mm_fld RX6 19 6 2 := ⟨_, TX6, 3, rfl, by decide, mm_in 218 (by decide +kernel) rfl, inX6⟩
theorem fG_X7_80 : mm_fld RX7 80 7 15 := ⟨_, TX7, 16, rfl, by decide, mm_in 357 (by decide +kernel) rfl, inX7⟩
theorem fP_X7_80 : mm_fldP RX7 80 7 15 .int false := ⟨_, TX7, 16, tyX7, rfl, by decide, mm_in 357 (by decide +kernel) rfl, inX7, tyX7_ok, nmX7, rfl, by decide +kernel⟩
theorem fG_X7_77 : mm_fld RX7 77 7 14 := ⟨_, TX7, 16, rfl, by decide, mm_in 356 (by decide +kernel) rfl, inX7⟩
theorem fP_X7_77 : mm_fldP RX7 77 7 14 .int false := ⟨_, TX7, 16, tyX7, rfl, by decide, mm_in 356 (by decide +kernel) rfl, inX7, tyX7_ok, nmX7, rfl, by decide +kernel⟩
theorem fG_X7_73 : mm_fld RX7 73 7 13 := ⟨_, TX7, 16, rfl, by decide, mm_in 355 (by decide +kernel) rfl, inX7⟩
theorem fP_X7_73 : mm_fldP RX7 73 7 13 .int false := ⟨_, TX7, 16, tyX7, rfl, by decide, mm_in 355 (by decide +kernel) rfl, inX7, tyX7_ok, nmX7, rfl, by decide +kernel⟩
theorem fG_X7_12 : mm_fld RX7 12 7 0 := ⟨_, TX7, 16, rfl, by decide, mm_in 342 (by decide +kernel) rfl, inX7⟩
theorem cV_X7_83 : mm_cv RX7 83 mX5_setSize 2 := ⟨mm_in 395 (by decide +kernel) rfl, mm_in 396 (by decide +kernel) rfl, mm_in 397 (by decide +kernel) rfl, mm_in 67 (by decide +kernel) rfl, mm_in 398 (by decide +kernel) rfl, ⟨by decide +kernel, by decide +kernel, by decide +kernel⟩⟩
theorem cV_X7_87 : mm_cv RX7 87 mX7_counted 1 := ⟨mm_in 403 (by decide +kernel) rfl, mm_in 405 (by decide +kernel) rfl, mm_in 1 (by decide +kernel) rfl, mm_in 66 (by decide +kernel) rfl, mm_in 406 (by decide +kernel) rfl, ⟨by decide +kernel, by decide +kernel, by decide +kernel⟩⟩
theorem cV_X7_91 : mm_cv RX7 91 mX5_addTenant 3 := ⟨mm_in 411 (by decide +kernel) rfl, mm_in 412 (by decide +kernel) rfl, mm_in 413 (by decide +kernel) rfl, mm_in 67 (by decide +kernel) rfl, mm_in 414 (by decide +kernel) rfl, ⟨by decide +kernel, by decide +kernel, by decide +kernel⟩⟩
theorem kb_m10 : (Int8.ofInt (-10)).toInt32 = -10 := by decide
theorem cV_X7_95 : mm_cv RX7 95 mX5_setRefused 2 := ⟨mm_in 419 (by decide +kernel) rfl, mm_in 420 (by decide +kernel) rfl, mm_in 421 (by decide +kernel) rfl, mm_in 67 (by decide +kernel) rfl, mm_in 422 (by decide +kernel) rfl, ⟨by decide +kernel, by decide +kernel, by decide +kernel⟩⟩
theorem cV_X7_98 : mm_cv RX7 98 mX7_countedApart 1 := ⟨mm_in 431 (by decide +kernel) rfl, mm_in 433 (by decide +kernel) rfl, mm_in 2 (by decide +kernel) rfl, mm_in 66 (by decide +kernel) rfl, mm_in 434 (by decide +kernel) rfl, ⟨by decide +kernel, by decide +kernel, by decide +kernel⟩⟩
theorem cV_X7_101 : mm_cv RX7 101 mX5_setOwner 2 := ⟨mm_in 439 (by decide +kernel) rfl, mm_in 440 (by decide +kernel) rfl, mm_in 441 (by decide +kernel) rfl, mm_in 67 (by decide +kernel) rfl, mm_in 442 (by decide +kernel) rfl, ⟨by decide +kernel, by decide +kernel, by decide +kernel⟩⟩
theorem cV_X7_104 : mm_cv RX7 104 mX5_addLetter 1 := ⟨mm_in 460 (by decide +kernel) rfl, mm_in 461 (by decide +kernel) rfl, mm_in 462 (by decide +kernel) rfl, mm_in 67 (by decide +kernel) rfl, mm_in 463 (by decide +kernel) rfl, ⟨by decide +kernel, by decide +kernel, by decide +kernel⟩⟩
theorem cV_X7_107 : mm_cv RX7 107 mX5_setLit 3 := ⟨mm_in 471 (by decide +kernel) rfl, mm_in 472 (by decide +kernel) rfl, mm_in 473 (by decide +kernel) rfl, mm_in 67 (by decide +kernel) rfl, mm_in 474 (by decide +kernel) rfl, ⟨by decide +kernel, by decide +kernel, by decide +kernel⟩⟩
theorem cV_X7_111 : mm_cv RX7 111 mX5_setSlack 1 := ⟨mm_in 486 (by decide +kernel) rfl, mm_in 487 (by decide +kernel) rfl, mm_in 488 (by decide +kernel) rfl, mm_in 67 (by decide +kernel) rfl, mm_in 489 (by decide +kernel) rfl, ⟨by decide +kernel, by decide +kernel, by decide +kernel⟩⟩
theorem cS_X7_114 : mm_cs RX7 114 mX7_isHour 1 := ⟨mm_in 494 (by decide +kernel) rfl, mm_in 476 (by decide +kernel) rfl, mm_in 66 (by decide +kernel) rfl, mm_in 477 (by decide +kernel) rfl, ⟨by decide +kernel, by decide +kernel, by decide +kernel⟩⟩
theorem cV_X7_118 : mm_cv RX7 118 mX5_isWindow 1 := ⟨mm_in 495 (by decide +kernel) rfl, mm_in 444 (by decide +kernel) rfl, mm_in 445 (by decide +kernel) rfl, mm_in 67 (by decide +kernel) rfl, mm_in 446 (by decide +kernel) rfl, ⟨by decide +kernel, by decide +kernel, by decide +kernel⟩⟩
theorem cV_X7_121 : mm_cv RX7 121 mX5_painsOfChange 2 := ⟨mm_in 496 (by decide +kernel) rfl, mm_in 497 (by decide +kernel) rfl, mm_in 498 (by decide +kernel) rfl, mm_in 67 (by decide +kernel) rfl, mm_in 499 (by decide +kernel) rfl, ⟨by decide +kernel, by decide +kernel, by decide +kernel⟩⟩
theorem fG_X7_35 : mm_fld RX7 35 7 6 := ⟨_, TX7, 16, rfl, by decide, mm_in 348 (by decide +kernel) rfl, inX7⟩
theorem cV_X7_124 : mm_cv RX7 124 mX4_addBytes 2 := ⟨mm_in 507 (by decide +kernel) rfl, mm_in 508 (by decide +kernel) rfl, mm_in 509 (by decide +kernel) rfl, mm_in 68 (by decide +kernel) rfl, mm_in 510 (by decide +kernel) rfl, ⟨by decide +kernel, by decide +kernel, by decide +kernel⟩⟩
theorem cV_X7_128 : mm_cv RX7 128 mX4_empty 0 := ⟨mm_in 516 (by decide +kernel) rfl, mm_in 517 (by decide +kernel) rfl, mm_in 518 (by decide +kernel) rfl, mm_in 68 (by decide +kernel) rfl, mm_in 519 (by decide +kernel) rfl, ⟨by decide +kernel, by decide +kernel, by decide +kernel⟩⟩
theorem cV_X7_132 : mm_cv RX7 132 mX4_parse 0 := ⟨mm_in 524 (by decide +kernel) rfl, mm_in 525 (by decide +kernel) rfl, mm_in 526 (by decide +kernel) rfl, mm_in 68 (by decide +kernel) rfl, mm_in 527 (by decide +kernel) rfl, ⟨by decide +kernel, by decide +kernel, by decide +kernel⟩⟩
theorem fG_X7_16 : mm_fld RX7 16 7 1 := ⟨_, TX7, 16, rfl, by decide, mm_in 343 (by decide +kernel) rfl, inX7⟩
theorem cV_X7_135 : mm_cv RX7 135 mX5_beAnew 2 := ⟨mm_in 614 (by decide +kernel) rfl, mm_in 400 (by decide +kernel) rfl, mm_in 401 (by decide +kernel) rfl, mm_in 67 (by decide +kernel) rfl, mm_in 402 (by decide +kernel) rfl, ⟨by decide +kernel, by decide +kernel, by decide +kernel⟩⟩
theorem cV_X7_139 : mm_cv RX7 139 mX4_tellTo 1 := ⟨mm_in 615 (by decide +kernel) rfl, mm_in 616 (by decide +kernel) rfl, mm_in 617 (by decide +kernel) rfl, mm_in 68 (by decide +kernel) rfl, mm_in 618 (by decide +kernel) rfl, ⟨by decide +kernel, by decide +kernel, by decide +kernel⟩⟩
theorem cV_X7_143 : mm_cv RX7 143 mX5_beLike 1 := ⟨mm_in 630 (by decide +kernel) rfl, mm_in 631 (by decide +kernel) rfl, mm_in 632 (by decide +kernel) rfl, mm_in 67 (by decide +kernel) rfl, mm_in 633 (by decide +kernel) rfl, ⟨by decide +kernel, by decide +kernel, by decide +kernel⟩⟩
theorem fG_X7_147 : mm_fld RX7 147 4 1 := ⟨_, TX4, 9, rfl, by decide, mm_in 175 (by decide +kernel) rfl, inX4⟩
theorem ks_m1000 : (Int16.ofInt (-1000)).toInt32 = -1000 := by decide
theorem ks_585 : (Int16.ofInt (585)).toInt32 = 585 := by decide
theorem ks_1170 : (Int16.ofInt (1170)).toInt32 = 1170 := by decide
theorem cS_X7_150 : mm_cs RX7 150 mX7_isShape 1 := ⟨mm_in 642 (by decide +kernel) rfl, mm_in 465 (by decide +kernel) rfl, mm_in 66 (by decide +kernel) rfl, mm_in 466 (by decide +kernel) rfl, ⟨by decide +kernel, by decide +kernel, by decide +kernel⟩⟩
theorem cS_X7_153 : mm_cs RX7 153 mX7_seen 2 := ⟨mm_in 643 (by decide +kernel) rfl, mm_in 644 (by decide +kernel) rfl, mm_in 66 (by decide +kernel) rfl, mm_in 645 (by decide +kernel) rfl, ⟨by decide +kernel, by decide +kernel, by decide +kernel⟩⟩
theorem cV_X7_157 : mm_cv RX7 157 mX5_readAs 1 := ⟨mm_in 646 (by decide +kernel) rfl, mm_in 647 (by decide +kernel) rfl, mm_in 648 (by decide +kernel) rfl, mm_in 67 (by decide +kernel) rfl, mm_in 649 (by decide +kernel) rfl, ⟨by decide +kernel, by decide +kernel, by decide +kernel⟩⟩
theorem cV_X7_160 : mm_cv RX7 160 mX5_isBox 1 := ⟨mm_in 660 (by decide +kernel) rfl, mm_in 661 (by decide +kernel) rfl, mm_in 662 (by decide +kernel) rfl, mm_in 67 (by decide +kernel) rfl, mm_in 663 (by decide +kernel) rfl, ⟨by decide +kernel, by decide +kernel, by decide +kernel⟩⟩
theorem fG_X7_163 : mm_fld RX7 163 5 11 := ⟨_, TX5, 16, rfl, by decide, mm_in 120 (by decide +kernel) rfl, inX5⟩
theorem cS_X7_167 : mm_cs RX7 167 mX7_shapeIn 2 := ⟨mm_in 668 (by decide +kernel) rfl, mm_in 669 (by decide +kernel) rfl, mm_in 66 (by decide +kernel) rfl, mm_in 670 (by decide +kernel) rfl, ⟨by decide +kernel, by decide +kernel, by decide +kernel⟩⟩
theorem cV_X7_170 : mm_cv RX7 170 mX5_isTop 1 := ⟨mm_in 676 (by decide +kernel) rfl, mm_in 665 (by decide +kernel) rfl, mm_in 666 (by decide +kernel) rfl, mm_in 67 (by decide +kernel) rfl, mm_in 667 (by decide +kernel) rfl, ⟨by decide +kernel, by decide +kernel, by decide +kernel⟩⟩
theorem cV_X7_173 : mm_cv RX7 173 mX5_isLetter 1 := ⟨mm_in 677 (by decide +kernel) rfl, mm_in 428 (by decide +kernel) rfl, mm_in 429 (by decide +kernel) rfl, mm_in 67 (by decide +kernel) rfl, mm_in 430 (by decide +kernel) rfl, ⟨by decide +kernel, by decide +kernel, by decide +kernel⟩⟩
theorem fG_X7_176 : mm_fld RX7 176 5 0 := ⟨_, TX5, 16, rfl, by decide, mm_in 98 (by decide +kernel) rfl, inX5⟩
theorem fG_X7_42 : mm_fld RX7 42 7 7 := ⟨_, TX7, 16, rfl, by decide, mm_in 349 (by decide +kernel) rfl, inX7⟩
theorem fG_X7_200 : mm_fld RX7 200 5 4 := ⟨_, TX5, 16, rfl, by decide, mm_in 108 (by decide +kernel) rfl, inX5⟩
theorem cV_X7_203 : mm_cv RX7 203 mX6_spell 2 := ⟨mm_in 686 (by decide +kernel) rfl, mm_in 687 (by decide +kernel) rfl, mm_in 688 (by decide +kernel) rfl, mm_in 69 (by decide +kernel) rfl, mm_in 689 (by decide +kernel) rfl, ⟨by decide +kernel, by decide +kernel, by decide +kernel⟩⟩
theorem cV_X7_179 : mm_cv RX7 179 mX7_isAsked 2 := ⟨mm_in 682 (by decide +kernel) rfl, mm_in 684 (by decide +kernel) rfl, mm_in 9 (by decide +kernel) rfl, mm_in 66 (by decide +kernel) rfl, mm_in 685 (by decide +kernel) rfl, ⟨by decide +kernel, by decide +kernel, by decide +kernel⟩⟩
theorem fG_X7_52 : mm_fld RX7 52 7 9 := ⟨_, TX7, 16, rfl, by decide, mm_in 351 (by decide +kernel) rfl, inX7⟩
theorem cV_X7_183 : mm_cv RX7 183 mX1_find 3 := ⟨mm_in 690 (by decide +kernel) rfl, mm_in 691 (by decide +kernel) rfl, mm_in 692 (by decide +kernel) rfl, mm_in 70 (by decide +kernel) rfl, mm_in 693 (by decide +kernel) rfl, ⟨by decide +kernel, by decide +kernel, by decide +kernel⟩⟩
theorem fG_X7_187 : mm_fld RX7 187 1 0 := ⟨_, TX1, 8, rfl, by decide, mm_in 264 (by decide +kernel) rfl, inX1⟩
theorem kb_m5 : (Int8.ofInt (-5)).toInt32 = -5 := by decide
theorem fG_X7_190 : mm_fld RX7 190 6 1 := ⟨_, TX6, 3, rfl, by decide, mm_in 216 (by decide +kernel) rfl, inX6⟩
theorem fG_X7_197 : mm_fld RX7 197 1 2 := ⟨_, TX1, 8, rfl, by decide, mm_in 268 (by decide +kernel) rfl, inX1⟩
theorem fG_X7_193 : mm_fld RX7 193 1 1 := ⟨_, TX1, 8, rfl, by decide, mm_in 266 (by decide +kernel) rfl, inX1⟩
theorem fG_X7_46 : mm_fld RX7 46 7 8 := ⟨_, TX7, 16, rfl, by decide, mm_in 350 (by decide +kernel) rfl, inX7⟩
theorem fG_X7_59 : mm_fld RX7 59 7 10 := ⟨_, TX7, 16, rfl, by decide, mm_in 352 (by decide +kernel) rfl, inX7⟩
theorem cV_X7_206 : mm_cv RX7 206 mX2_find 3 := ⟨mm_in 752 (by decide +kernel) rfl, mm_in 753 (by decide +kernel) rfl, mm_in 754 (by decide +kernel) rfl, mm_in 72 (by decide +kernel) rfl, mm_in 755 (by decide +kernel) rfl, ⟨by decide +kernel, by decide +kernel, by decide +kernel⟩⟩
theorem fG_X7_63 : mm_fld RX7 63 7 11 := ⟨_, TX7, 16, rfl, by decide, mm_in 353 (by decide +kernel) rfl, inX7⟩
theorem cV_X7_207 : mm_cv RX7 207 mX2_fewestUnlike 1 := ⟨mm_in 768 (by decide +kernel) rfl, mm_in 769 (by decide +kernel) rfl, mm_in 770 (by decide +kernel) rfl, mm_in 72 (by decide +kernel) rfl, mm_in 771 (by decide +kernel) rfl, ⟨by decide +kernel, by decide +kernel, by decide +kernel⟩⟩
theorem fG_X7_211 : mm_fld RX7 211 5 3 := ⟨_, TX5, 16, rfl, by decide, mm_in 106 (by decide +kernel) rfl, inX5⟩
theorem cV_X7_214 : mm_cv RX7 214 mX5_payOf 1 := ⟨mm_in 782 (by decide +kernel) rfl, mm_in 783 (by decide +kernel) rfl, mm_in 784 (by decide +kernel) rfl, mm_in 67 (by decide +kernel) rfl, mm_in 785 (by decide +kernel) rfl, ⟨by decide +kernel, by decide +kernel, by decide +kernel⟩⟩
theorem fG_X7_217 : mm_fld RX7 217 6 2 := ⟨_, TX6, 3, rfl, by decide, mm_in 221 (by decide +kernel) rfl, inX6⟩
theorem cV_X7_220 : mm_cv RX7 220 mX5_changeable 3 := ⟨mm_in 786 (by decide +kernel) rfl, mm_in 711 (by decide +kernel) rfl, mm_in 712 (by decide +kernel) rfl, mm_in 67 (by decide +kernel) rfl, mm_in 713 (by decide +kernel) rfl, ⟨by decide +kernel, by decide +kernel, by decide +kernel⟩⟩
theorem cV_X7_224 : mm_cv RX7 224 mX5_canBeSaid 3 := ⟨mm_in 787 (by decide +kernel) rfl, mm_in 788 (by decide +kernel) rfl, mm_in 789 (by decide +kernel) rfl, mm_in 67 (by decide +kernel) rfl, mm_in 790 (by decide +kernel) rfl, ⟨by decide +kernel, by decide +kernel, by decide +kernel⟩⟩
theorem kb_66 : (Int8.ofInt (66)).toInt32 = 66 := by decide
theorem fG_X7_228 : mm_fld RX7 228 5 1 := ⟨_, TX5, 16, rfl, by decide, mm_in 102 (by decide +kernel) rfl, inX5⟩
theorem fG_X7_231 : mm_fld RX7 231 6 0 := ⟨_, TX6, 3, rfl, by decide, mm_in 211 (by decide +kernel) rfl, inX6⟩
theorem cV_X7_233 : mm_cv RX7 233 mX5_firstColumn 5 := ⟨mm_in 813 (by decide +kernel) rfl, mm_in 796 (by decide +kernel) rfl, mm_in 797 (by decide +kernel) rfl, mm_in 67 (by decide +kernel) rfl, mm_in 798 (by decide +kernel) rfl, ⟨by decide +kernel, by decide +kernel, by decide +kernel⟩⟩
theorem cV_X7_237 : mm_cv RX7 237 mX5_addReading 3 := ⟨mm_in 818 (by decide +kernel) rfl, mm_in 819 (by decide +kernel) rfl, mm_in 820 (by decide +kernel) rfl, mm_in 67 (by decide +kernel) rfl, mm_in 821 (by decide +kernel) rfl, ⟨by decide +kernel, by decide +kernel, by decide +kernel⟩⟩
theorem fG_X7_240 : mm_fld RX7 240 5 5 := ⟨_, TX5, 16, rfl, by decide, mm_in 111 (by decide +kernel) rfl, inX5⟩
theorem fP_X7_240 : mm_fldP RX7 240 5 5 .int false := ⟨_, TX5, 16, tyX5, rfl, by decide, mm_in 111 (by decide +kernel) rfl, inX5, tyX5_ok, nmX5, rfl, by decide +kernel⟩
theorem fG_X7_69 : mm_fld RX7 69 7 12 := ⟨_, TX7, 16, rfl, by decide, mm_in 354 (by decide +kernel) rfl, inX7⟩
theorem cV_X7_243 : mm_cv RX7 243 mX0_find 1 := ⟨mm_in 831 (by decide +kernel) rfl, mm_in 832 (by decide +kernel) rfl, mm_in 833 (by decide +kernel) rfl, mm_in 73 (by decide +kernel) rfl, mm_in 834 (by decide +kernel) rfl, ⟨by decide +kernel, by decide +kernel, by decide +kernel⟩⟩
theorem fG_X7_245 : mm_fld RX7 245 0 0 := ⟨_, TX0, 7, rfl, by decide, mm_in 316 (by decide +kernel) rfl, inX0⟩
theorem fG_X7_254 : mm_fld RX7 254 0 3 := ⟨_, TX0, 7, rfl, by decide, mm_in 322 (by decide +kernel) rfl, inX0⟩
theorem fG_X7_251 : mm_fld RX7 251 0 2 := ⟨_, TX0, 7, rfl, by decide, mm_in 320 (by decide +kernel) rfl, inX0⟩
theorem fG_X7_248 : mm_fld RX7 248 0 1 := ⟨_, TX0, 7, rfl, by decide, mm_in 318 (by decide +kernel) rfl, inX0⟩
theorem cS_X7_257 : mm_cs RX7 257 mX7_mostUnlike 2 := ⟨mm_in 864 (by decide +kernel) rfl, mm_in 865 (by decide +kernel) rfl, mm_in 66 (by decide +kernel) rfl, mm_in 866 (by decide +kernel) rfl, ⟨by decide +kernel, by decide +kernel, by decide +kernel⟩⟩
theorem fG_X7_22 : mm_fld RX7 22 7 3 := ⟨_, TX7, 16, rfl, by decide, mm_in 345 (by decide +kernel) rfl, inX7⟩
theorem fP_X7_29 : mm_fldP RX7 29 7 5 .boolean false := ⟨_, TX7, 16, tyX7, rfl, by decide, mm_in 347 (by decide +kernel) rfl, inX7, tyX7_ok, nmX7, rfl, by decide +kernel⟩
theorem fG_X7_19 : mm_fld RX7 19 7 2 := ⟨_, TX7, 16, rfl, by decide, mm_in 344 (by decide +kernel) rfl, inX7⟩
theorem fP_X7_25 : mm_fldP RX7 25 7 4 .boolean false := ⟨_, TX7, 16, tyX7, rfl, by decide, mm_in 346 (by decide +kernel) rfl, inX7, tyX7_ok, nmX7, rfl, by decide +kernel⟩
theorem fG_X7_29 : mm_fld RX7 29 7 5 := ⟨_, TX7, 16, rfl, by decide, mm_in 347 (by decide +kernel) rfl, inX7⟩
theorem fG_X7_25 : mm_fld RX7 25 7 4 := ⟨_, TX7, 16, rfl, by decide, mm_in 346 (by decide +kernel) rfl, inX7⟩
theorem fG_X7_271 : mm_fld RX7 271 4 0 := ⟨_, TX4, 9, rfl, by decide, mm_in 173 (by decide +kernel) rfl, inX4⟩
theorem cV_X7_260 : mm_cv RX7 260 mX7_howMany 1 := ⟨mm_in 883 (by decide +kernel) rfl, mm_in 885 (by decide +kernel) rfl, mm_in 22 (by decide +kernel) rfl, mm_in 66 (by decide +kernel) rfl, mm_in 886 (by decide +kernel) rfl, ⟨by decide +kernel, by decide +kernel, by decide +kernel⟩⟩
theorem kC_X7_263 : Cond.constantLong RX7 263 (673) ∈ mm_big := mm_in 891 (by decide +kernel) rfl
theorem cV_X7_267 : mm_cv RX7 267 mX5_digestOn 1 := ⟨mm_in 893 (by decide +kernel) rfl, mm_in 894 (by decide +kernel) rfl, mm_in 895 (by decide +kernel) rfl, mm_in 67 (by decide +kernel) rfl, mm_in 896 (by decide +kernel) rfl, ⟨by decide +kernel, by decide +kernel, by decide +kernel⟩⟩
theorem kC_X7_265 : Cond.constantLong RX7 265 (31) ∈ mm_big := mm_in 892 (by decide +kernel) rfl
theorem fG_X8_23 : mm_fld RX8 23 8 4 := ⟨_, TX8, 32, rfl, by decide, mm_in 916 (by decide +kernel) rfl, inX8⟩
theorem ks_354 : (Int16.ofInt (354)).toInt32 = 354 := by decide
theorem fG_X8_7 : mm_fld RX8 7 8 0 := ⟨_, TX8, 32, rfl, by decide, mm_in 912 (by decide +kernel) rfl, inX8⟩
theorem ki_0_354 : vp_in (0 : Int32) 354 := mm_ib_in (by decide +kernel)
theorem ki_1_354 : vp_in (1 : Int32) 354 := mm_ib_in (by decide +kernel)
theorem kb_36 : (Int8.ofInt (36)).toInt32 = 36 := by decide
theorem cS_X8_70 : mm_cs RX8 70 mX8_in 3 := ⟨mm_in 1017 (by decide +kernel) rfl, mm_in 1018 (by decide +kernel) rfl, mm_in 74 (by decide +kernel) rfl, mm_in 1019 (by decide +kernel) rfl, ⟨by decide +kernel, by decide +kernel, by decide +kernel⟩⟩
theorem cV_X8_74 : mm_cv RX8 74 mX8_isPlace 2 := ⟨mm_in 1056 (by decide +kernel) rfl, mm_in 1058 (by decide +kernel) rfl, mm_in 31 (by decide +kernel) rfl, mm_in 74 (by decide +kernel) rfl, mm_in 1059 (by decide +kernel) rfl, ⟨by decide +kernel, by decide +kernel, by decide +kernel⟩⟩
theorem cV_X8_78 : mm_cv RX8 78 mX8_isWindow 1 := ⟨mm_in 1052 (by decide +kernel) rfl, mm_in 1054 (by decide +kernel) rfl, mm_in 30 (by decide +kernel) rfl, mm_in 74 (by decide +kernel) rfl, mm_in 1055 (by decide +kernel) rfl, ⟨by decide +kernel, by decide +kernel, by decide +kernel⟩⟩
theorem ki_2_354 : vp_in (2 : Int32) 354 := mm_ib_in (by decide +kernel)
theorem ki_3_354 : vp_in (3 : Int32) 354 := mm_ib_in (by decide +kernel)
theorem kt_3 : (3 : Int32).toNatClampNeg = 3 := by decide +kernel
theorem cV_X8_66 : mm_cv RX8 66 mX8_anew 2 := ⟨mm_in 908 (by decide +kernel) rfl, mm_in 910 (by decide +kernel) rfl, mm_in 23 (by decide +kernel) rfl, mm_in 74 (by decide +kernel) rfl, mm_in 911 (by decide +kernel) rfl, ⟨by decide +kernel, by decide +kernel, by decide +kernel⟩⟩
theorem cV_X8_82 : mm_cv RX8 82 mX8_isMan 1 := ⟨mm_in 1036 (by decide +kernel) rfl, mm_in 1038 (by decide +kernel) rfl, mm_in 27 (by decide +kernel) rfl, mm_in 74 (by decide +kernel) rfl, mm_in 1039 (by decide +kernel) rfl, ⟨by decide +kernel, by decide +kernel, by decide +kernel⟩⟩
theorem kb_30 : (Int8.ofInt (30)).toInt32 = 30 := by decide
theorem cS_X8_85 : mm_cs RX8 85 mX8_isHour 1 := ⟨mm_in 1076 (by decide +kernel) rfl, mm_in 1077 (by decide +kernel) rfl, mm_in 74 (by decide +kernel) rfl, mm_in 1078 (by decide +kernel) rfl, ⟨by decide +kernel, by decide +kernel, by decide +kernel⟩⟩
theorem kb_96 : (Int8.ofInt (96)).toInt32 = 96 := by decide
theorem ki_5_354 : vp_in (5 : Int32) 354 := mm_ib_in (by decide +kernel)
theorem kt_5 : (5 : Int32).toNatClampNeg = 5 := by decide +kernel
theorem cV_X8_88 : mm_cv RX8 88 mX8_putWall 2 := ⟨mm_in 1013 (by decide +kernel) rfl, mm_in 1015 (by decide +kernel) rfl, mm_in 24 (by decide +kernel) rfl, mm_in 74 (by decide +kernel) rfl, mm_in 1016 (by decide +kernel) rfl, ⟨by decide +kernel, by decide +kernel, by decide +kernel⟩⟩
theorem cV_X8_92 : mm_cv RX8 92 mX8_told 1 := ⟨mm_in 1020 (by decide +kernel) rfl, mm_in 1022 (by decide +kernel) rfl, mm_in 25 (by decide +kernel) rfl, mm_in 74 (by decide +kernel) rfl, mm_in 1023 (by decide +kernel) rfl, ⟨by decide +kernel, by decide +kernel, by decide +kernel⟩⟩
theorem cV_X8_96 : mm_cv RX8 96 mX8_putMan 3 := ⟨mm_in 1028 (by decide +kernel) rfl, mm_in 1030 (by decide +kernel) rfl, mm_in 26 (by decide +kernel) rfl, mm_in 74 (by decide +kernel) rfl, mm_in 1031 (by decide +kernel) rfl, ⟨by decide +kernel, by decide +kernel, by decide +kernel⟩⟩
theorem cV_X8_100 : mm_cv RX8 100 mX8_isLetter 1 := ⟨mm_in 1040 (by decide +kernel) rfl, mm_in 1042 (by decide +kernel) rfl, mm_in 28 (by decide +kernel) rfl, mm_in 74 (by decide +kernel) rfl, mm_in 1043 (by decide +kernel) rfl, ⟨by decide +kernel, by decide +kernel, by decide +kernel⟩⟩
theorem cV_X8_103 : mm_cv RX8 103 mX8_putOwner 2 := ⟨mm_in 1048 (by decide +kernel) rfl, mm_in 1050 (by decide +kernel) rfl, mm_in 29 (by decide +kernel) rfl, mm_in 74 (by decide +kernel) rfl, mm_in 1051 (by decide +kernel) rfl, ⟨by decide +kernel, by decide +kernel, by decide +kernel⟩⟩
theorem cV_X8_106 : mm_cv RX8 106 mX8_putLetter 1 := ⟨mm_in 1064 (by decide +kernel) rfl, mm_in 1066 (by decide +kernel) rfl, mm_in 32 (by decide +kernel) rfl, mm_in 74 (by decide +kernel) rfl, mm_in 1067 (by decide +kernel) rfl, ⟨by decide +kernel, by decide +kernel, by decide +kernel⟩⟩
theorem cV_X8_109 : mm_cv RX8 109 mX8_putLight 3 := ⟨mm_in 1072 (by decide +kernel) rfl, mm_in 1074 (by decide +kernel) rfl, mm_in 33 (by decide +kernel) rfl, mm_in 74 (by decide +kernel) rfl, mm_in 1075 (by decide +kernel) rfl, ⟨by decide +kernel, by decide +kernel, by decide +kernel⟩⟩
theorem cV_X8_112 : mm_cv RX8 112 mX8_putSlack 1 := ⟨mm_in 1083 (by decide +kernel) rfl, mm_in 1085 (by decide +kernel) rfl, mm_in 34 (by decide +kernel) rfl, mm_in 74 (by decide +kernel) rfl, mm_in 1086 (by decide +kernel) rfl, ⟨by decide +kernel, by decide +kernel, by decide +kernel⟩⟩
theorem cV_X8_115 : mm_cv RX8 115 mX8_willNot 2 := ⟨mm_in 1095 (by decide +kernel) rfl, mm_in 1097 (by decide +kernel) rfl, mm_in 36 (by decide +kernel) rfl, mm_in 74 (by decide +kernel) rfl, mm_in 1098 (by decide +kernel) rfl, ⟨by decide +kernel, by decide +kernel, by decide +kernel⟩⟩
theorem cV_X8_118 : mm_cv RX8 118 mX8_price 3 := ⟨mm_in 1091 (by decide +kernel) rfl, mm_in 1093 (by decide +kernel) rfl, mm_in 35 (by decide +kernel) rfl, mm_in 74 (by decide +kernel) rfl, mm_in 1094 (by decide +kernel) rfl, ⟨by decide +kernel, by decide +kernel, by decide +kernel⟩⟩
theorem fG_X8_121 : mm_fld RX8 121 8 6 := ⟨_, TX8, 32, rfl, by decide, mm_in 918 (by decide +kernel) rfl, inX8⟩
theorem fG_X8_26 : mm_fld RX8 26 8 5 := ⟨_, TX8, 32, rfl, by decide, mm_in 917 (by decide +kernel) rfl, inX8⟩
theorem kC_X8_125 : Cond.constantLong RX8 125 (255) ∈ mm_big := mm_in 1103 (by decide +kernel) rfl
theorem fP_X8_121 : mm_fldP RX8 121 8 6 .int false := ⟨_, TX8, 32, tyX8, rfl, by decide, mm_in 918 (by decide +kernel) rfl, inX8, tyX8_ok, nmX8, rfl, by decide +kernel⟩
theorem fG_X8_127 : mm_fld RX8 127 8 8 := ⟨_, TX8, 32, rfl, by decide, mm_in 920 (by decide +kernel) rfl, inX8⟩
theorem cV_X8_130 : mm_cv RX8 130 mX8_byteAt 1 := ⟨mm_in 1120 (by decide +kernel) rfl, mm_in 1122 (by decide +kernel) rfl, mm_in 39 (by decide +kernel) rfl, mm_in 74 (by decide +kernel) rfl, mm_in 1123 (by decide +kernel) rfl, ⟨by decide +kernel, by decide +kernel, by decide +kernel⟩⟩
theorem fP_X8_133 : mm_fldP RX8 133 8 9 .int false := ⟨_, TX8, 32, tyX8, rfl, by decide, mm_in 921 (by decide +kernel) rfl, inX8, tyX8_ok, nmX8, rfl, by decide +kernel⟩
theorem fP_X8_136 : mm_fldP RX8 136 8 10 .int false := ⟨_, TX8, 32, tyX8, rfl, by decide, mm_in 922 (by decide +kernel) rfl, inX8, tyX8_ok, nmX8, rfl, by decide +kernel⟩
theorem fP_X8_127 : mm_fldP RX8 127 8 8 .int false := ⟨_, TX8, 32, tyX8, rfl, by decide, mm_in 920 (by decide +kernel) rfl, inX8, tyX8_ok, nmX8, rfl, by decide +kernel⟩
theorem fP_X8_143 : mm_fldP RX8 143 8 11 .int false := ⟨_, TX8, 32, tyX8, rfl, by decide, mm_in 923 (by decide +kernel) rfl, inX8, tyX8_ok, nmX8, rfl, by decide +kernel⟩
theorem fG_X8_133 : mm_fld RX8 133 8 9 := ⟨_, TX8, 32, rfl, by decide, mm_in 921 (by decide +kernel) rfl, inX8⟩
theorem fG_X8_143 : mm_fld RX8 143 8 11 := ⟨_, TX8, 32, rfl, by decide, mm_in 923 (by decide +kernel) rfl, inX8⟩
theorem fP_X8_139 : mm_fldP RX8 139 8 12 .long false := ⟨_, TX8, 32, tyX8, rfl, by decide, mm_in 924 (by decide +kernel) rfl, inX8, tyX8_ok, nmX8, rfl, by decide +kernel⟩
theorem fG_X8_139 : mm_fld RX8 139 8 12 := ⟨_, TX8, 32, rfl, by decide, mm_in 924 (by decide +kernel) rfl, inX8⟩
theorem fG_X8_136 : mm_fld RX8 136 8 10 := ⟨_, TX8, 32, rfl, by decide, mm_in 922 (by decide +kernel) rfl, inX8⟩
theorem kC_X8_146 : Cond.constantLong RX8 146 (2002873452) ∈ mm_big := mm_in 1132 (by decide +kernel) rfl
theorem kC_X8_148 : Cond.constantLong RX8 148 (127978992397940) ∈ mm_big := mm_in 1133 (by decide +kernel) rfl
theorem kC_X8_150 : Cond.constantLong RX8 150 (6840691) ∈ mm_big := mm_in 1134 (by decide +kernel) rfl
theorem kC_X8_152 : Cond.constantLong RX8 152 (119183001281906) ∈ mm_big := mm_in 1135 (by decide +kernel) rfl
theorem kC_X8_154 : Cond.constantLong RX8 154 (7104884) ∈ mm_big := mm_in 1136 (by decide +kernel) rfl
theorem kC_X8_156 : Cond.constantLong RX8 156 (495739560811) ∈ mm_big := mm_in 1137 (by decide +kernel) rfl
theorem cV_X8_158 : mm_cv RX8 158 mX8_item 0 := ⟨mm_in 1128 (by decide +kernel) rfl, mm_in 1130 (by decide +kernel) rfl, mm_in 41 (by decide +kernel) rfl, mm_in 74 (by decide +kernel) rfl, mm_in 1131 (by decide +kernel) rfl, ⟨by decide +kernel, by decide +kernel, by decide +kernel⟩⟩
theorem fP_X8_162 : mm_fldP RX8 162 8 13 .int false := ⟨_, TX8, 32, tyX8, rfl, by decide, mm_in 925 (by decide +kernel) rfl, inX8, tyX8_ok, nmX8, rfl, by decide +kernel⟩
theorem cS_X8_165 : mm_cs RX8 165 mX8_numbersOf 1 := ⟨mm_in 1138 (by decide +kernel) rfl, mm_in 1139 (by decide +kernel) rfl, mm_in 74 (by decide +kernel) rfl, mm_in 1140 (by decide +kernel) rfl, ⟨by decide +kernel, by decide +kernel, by decide +kernel⟩⟩
theorem fG_X8_162 : mm_fld RX8 162 8 13 := ⟨_, TX8, 32, rfl, by decide, mm_in 925 (by decide +kernel) rfl, inX8⟩
theorem cV_X8_168 : mm_cv RX8 168 mX8_next 0 := ⟨mm_in 1116 (by decide +kernel) rfl, mm_in 1118 (by decide +kernel) rfl, mm_in 38 (by decide +kernel) rfl, mm_in 74 (by decide +kernel) rfl, mm_in 1119 (by decide +kernel) rfl, ⟨by decide +kernel, by decide +kernel, by decide +kernel⟩⟩
theorem fG_X8_32 : mm_fld RX8 32 8 14 := ⟨_, TX8, 32, rfl, by decide, mm_in 926 (by decide +kernel) rfl, inX8⟩
theorem cV_X8_171 : mm_cv RX8 171 mX8_readItem 0 := ⟨mm_in 1124 (by decide +kernel) rfl, mm_in 1126 (by decide +kernel) rfl, mm_in 40 (by decide +kernel) rfl, mm_in 74 (by decide +kernel) rfl, mm_in 1127 (by decide +kernel) rfl, ⟨by decide +kernel, by decide +kernel, by decide +kernel⟩⟩
theorem cV_X8_174 : mm_cv RX8 174 mX8_findFault 0 := ⟨mm_in 1112 (by decide +kernel) rfl, mm_in 1114 (by decide +kernel) rfl, mm_in 37 (by decide +kernel) rfl, mm_in 74 (by decide +kernel) rfl, mm_in 1115 (by decide +kernel) rfl, ⟨by decide +kernel, by decide +kernel, by decide +kernel⟩⟩
theorem fG_X8_13 : mm_fld RX8 13 8 1 := ⟨_, TX8, 32, rfl, by decide, mm_in 913 (by decide +kernel) rfl, inX8⟩
theorem cV_X8_177 : mm_cv RX8 177 mX8_isDone 1 := ⟨mm_in 1141 (by decide +kernel) rfl, mm_in 1143 (by decide +kernel) rfl, mm_in 42 (by decide +kernel) rfl, mm_in 74 (by decide +kernel) rfl, mm_in 1144 (by decide +kernel) rfl, ⟨by decide +kernel, by decide +kernel, by decide +kernel⟩⟩
theorem fG_X8_29 : mm_fld RX8 29 8 7 := ⟨_, TX8, 32, rfl, by decide, mm_in 919 (by decide +kernel) rfl, inX8⟩
theorem ks_4096 : (Int16.ofInt (4096)).toInt32 = 4096 := by decide
theorem fG_X8_35 : mm_fld RX8 35 8 15 := ⟨_, TX8, 32, rfl, by decide, mm_in 927 (by decide +kernel) rfl, inX8⟩
theorem cV_X8_180 : mm_cv RX8 180 mX8_readAs 1 := ⟨mm_in 1152 (by decide +kernel) rfl, mm_in 1154 (by decide +kernel) rfl, mm_in 43 (by decide +kernel) rfl, mm_in 74 (by decide +kernel) rfl, mm_in 1155 (by decide +kernel) rfl, ⟨by decide +kernel, by decide +kernel, by decide +kernel⟩⟩
theorem cS_X8_183 : mm_cs RX8 183 mX8_cellOf 2 := ⟨mm_in 1168 (by decide +kernel) rfl, mm_in 1169 (by decide +kernel) rfl, mm_in 74 (by decide +kernel) rfl, mm_in 1170 (by decide +kernel) rfl, ⟨by decide +kernel, by decide +kernel, by decide +kernel⟩⟩
theorem cS_X8_186 : mm_cs RX8 186 mX8_turned 1 := ⟨mm_in 1149 (by decide +kernel) rfl, mm_in 1150 (by decide +kernel) rfl, mm_in 74 (by decide +kernel) rfl, mm_in 1151 (by decide +kernel) rfl, ⟨by decide +kernel, by decide +kernel, by decide +kernel⟩⟩
theorem cV_X8_189 : mm_cv RX8 189 mX8_isBox 1 := ⟨mm_in 1160 (by decide +kernel) rfl, mm_in 1162 (by decide +kernel) rfl, mm_in 44 (by decide +kernel) rfl, mm_in 74 (by decide +kernel) rfl, mm_in 1163 (by decide +kernel) rfl, ⟨by decide +kernel, by decide +kernel, by decide +kernel⟩⟩
theorem cV_X8_192 : mm_cv RX8 192 mX8_shapeAt 2 := ⟨mm_in 1164 (by decide +kernel) rfl, mm_in 1166 (by decide +kernel) rfl, mm_in 45 (by decide +kernel) rfl, mm_in 74 (by decide +kernel) rfl, mm_in 1167 (by decide +kernel) rfl, ⟨by decide +kernel, by decide +kernel, by decide +kernel⟩⟩
theorem cS_X8_195 : mm_cs RX8 195 mX8_longOf 1 := ⟨mm_in 1195 (by decide +kernel) rfl, mm_in 1196 (by decide +kernel) rfl, mm_in 74 (by decide +kernel) rfl, mm_in 1197 (by decide +kernel) rfl, ⟨by decide +kernel, by decide +kernel, by decide +kernel⟩⟩
theorem kb_24 : (Int8.ofInt (24)).toInt32 = 24 := by decide
theorem cS_X8_198 : mm_cs RX8 198 mX8_letterOf 2 := ⟨mm_in 1202 (by decide +kernel) rfl, mm_in 1203 (by decide +kernel) rfl, mm_in 74 (by decide +kernel) rfl, mm_in 1204 (by decide +kernel) rfl, ⟨by decide +kernel, by decide +kernel, by decide +kernel⟩⟩
theorem fG_X8_38 : mm_fld RX8 38 8 16 := ⟨_, TX8, 32, rfl, by decide, mm_in 928 (by decide +kernel) rfl, inX8⟩
theorem fG_X8_41 : mm_fld RX8 41 8 17 := ⟨_, TX8, 32, rfl, by decide, mm_in 929 (by decide +kernel) rfl, inX8⟩
theorem cV_X8_201 : mm_cv RX8 201 mX8_priceOf 4 := ⟨mm_in 1205 (by decide +kernel) rfl, mm_in 1207 (by decide +kernel) rfl, mm_in 51 (by decide +kernel) rfl, mm_in 74 (by decide +kernel) rfl, mm_in 1208 (by decide +kernel) rfl, ⟨by decide +kernel, by decide +kernel, by decide +kernel⟩⟩
theorem cV_X8_205 : mm_cv RX8 205 mX8_findReads 0 := ⟨mm_in 1191 (by decide +kernel) rfl, mm_in 1193 (by decide +kernel) rfl, mm_in 49 (by decide +kernel) rfl, mm_in 74 (by decide +kernel) rfl, mm_in 1194 (by decide +kernel) rfl, ⟨by decide +kernel, by decide +kernel, by decide +kernel⟩⟩
theorem cV_X8_208 : mm_cv RX8 208 mX8_makeBox 4 := ⟨mm_in 1198 (by decide +kernel) rfl, mm_in 1200 (by decide +kernel) rfl, mm_in 50 (by decide +kernel) rfl, mm_in 74 (by decide +kernel) rfl, mm_in 1201 (by decide +kernel) rfl, ⟨by decide +kernel, by decide +kernel, by decide +kernel⟩⟩
theorem fP_X8_212 : mm_fldP RX8 212 8 20 .int false := ⟨_, TX8, 32, tyX8, rfl, by decide, mm_in 932 (by decide +kernel) rfl, inX8, tyX8_ok, nmX8, rfl, by decide +kernel⟩
theorem fG_X8_50 : mm_fld RX8 50 8 21 := ⟨_, TX8, 32, rfl, by decide, mm_in 933 (by decide +kernel) rfl, inX8⟩
theorem fG_X8_212 : mm_fld RX8 212 8 20 := ⟨_, TX8, 32, rfl, by decide, mm_in 932 (by decide +kernel) rfl, inX8⟩
theorem cV_X8_215 : mm_cv RX8 215 mX8_firstRow 1 := ⟨mm_in 1209 (by decide +kernel) rfl, mm_in 1211 (by decide +kernel) rfl, mm_in 52 (by decide +kernel) rfl, mm_in 74 (by decide +kernel) rfl, mm_in 1212 (by decide +kernel) rfl, ⟨by decide +kernel, by decide +kernel, by decide +kernel⟩⟩
theorem cV_X8_219 : mm_cv RX8 219 mX8_makeBoxes 2 := ⟨mm_in 1187 (by decide +kernel) rfl, mm_in 1189 (by decide +kernel) rfl, mm_in 48 (by decide +kernel) rfl, mm_in 74 (by decide +kernel) rfl, mm_in 1190 (by decide +kernel) rfl, ⟨by decide +kernel, by decide +kernel, by decide +kernel⟩⟩
theorem fP_X8_222 : mm_fldP RX8 222 8 22 .int false := ⟨_, TX8, 32, tyX8, rfl, by decide, mm_in 934 (by decide +kernel) rfl, inX8, tyX8_ok, nmX8, rfl, by decide +kernel⟩
theorem cV_X8_225 : mm_cv RX8 225 mX8_isRow 1 := ⟨mm_in 1213 (by decide +kernel) rfl, mm_in 1215 (by decide +kernel) rfl, mm_in 53 (by decide +kernel) rfl, mm_in 74 (by decide +kernel) rfl, mm_in 1216 (by decide +kernel) rfl, ⟨by decide +kernel, by decide +kernel, by decide +kernel⟩⟩
theorem cV_X8_231 : mm_cv RX8 231 mX8_nextRow 1 := ⟨mm_in 1217 (by decide +kernel) rfl, mm_in 1219 (by decide +kernel) rfl, mm_in 54 (by decide +kernel) rfl, mm_in 74 (by decide +kernel) rfl, mm_in 1220 (by decide +kernel) rfl, ⟨by decide +kernel, by decide +kernel, by decide +kernel⟩⟩
theorem fG_X8_222 : mm_fld RX8 222 8 22 := ⟨_, TX8, 32, rfl, by decide, mm_in 934 (by decide +kernel) rfl, inX8⟩
theorem fP_X8_228 : mm_fldP RX8 228 8 23 .int false := ⟨_, TX8, 32, tyX8, rfl, by decide, mm_in 935 (by decide +kernel) rfl, inX8, tyX8_ok, nmX8, rfl, by decide +kernel⟩
theorem fG_X8_53 : mm_fld RX8 53 8 24 := ⟨_, TX8, 32, rfl, by decide, mm_in 936 (by decide +kernel) rfl, inX8⟩
theorem cV_X8_234 : mm_cv RX8 234 mX8_isWord 1 := ⟨mm_in 1179 (by decide +kernel) rfl, mm_in 1181 (by decide +kernel) rfl, mm_in 46 (by decide +kernel) rfl, mm_in 74 (by decide +kernel) rfl, mm_in 1182 (by decide +kernel) rfl, ⟨by decide +kernel, by decide +kernel, by decide +kernel⟩⟩
theorem cV_X8_237 : mm_cv RX8 237 mX8_findWord 2 := ⟨mm_in 1183 (by decide +kernel) rfl, mm_in 1185 (by decide +kernel) rfl, mm_in 47 (by decide +kernel) rfl, mm_in 74 (by decide +kernel) rfl, mm_in 1186 (by decide +kernel) rfl, ⟨by decide +kernel, by decide +kernel, by decide +kernel⟩⟩
theorem fG_X8_228 : mm_fld RX8 228 8 23 := ⟨_, TX8, 32, rfl, by decide, mm_in 935 (by decide +kernel) rfl, inX8⟩
theorem fG_X8_60 : mm_fld RX8 60 8 26 := ⟨_, TX8, 32, rfl, by decide, mm_in 938 (by decide +kernel) rfl, inX8⟩
theorem cV_X8_240 : mm_cv RX8 240 mX8_wallOf 1 := ⟨mm_in 1233 (by decide +kernel) rfl, mm_in 1235 (by decide +kernel) rfl, mm_in 56 (by decide +kernel) rfl, mm_in 74 (by decide +kernel) rfl, mm_in 1236 (by decide +kernel) rfl, ⟨by decide +kernel, by decide +kernel, by decide +kernel⟩⟩
theorem fG_X8_56 : mm_fld RX8 56 8 25 := ⟨_, TX8, 32, rfl, by decide, mm_in 937 (by decide +kernel) rfl, inX8⟩
theorem kb_64 : (Int8.ofInt (64)).toInt32 = 64 := by decide
theorem kC_X8_244 : Cond.constantLong RX8 244 (-1) ∈ mm_big := mm_in 1237 (by decide +kernel) rfl
theorem kC_X8_246 : Cond.constantLong RX8 246 (4095) ∈ mm_big := mm_in 1242 (by decide +kernel) rfl
theorem ki_12 : Int32.ofInt (12) = 12 := by decide
theorem cV_X8_248 : mm_cv RX8 248 mX8_findWalls 3 := ⟨mm_in 1229 (by decide +kernel) rfl, mm_in 1231 (by decide +kernel) rfl, mm_in 55 (by decide +kernel) rfl, mm_in 74 (by decide +kernel) rfl, mm_in 1232 (by decide +kernel) rfl, ⟨by decide +kernel, by decide +kernel, by decide +kernel⟩⟩
theorem ki_0_2 : vp_in (0 : Int32) 2 := mm_ib_in (by decide +kernel)
theorem ki_1_2 : vp_in (1 : Int32) 2 := mm_ib_in (by decide +kernel)
theorem cV_X8_252 : mm_cv RX8 252 mX8_onesOf 1 := ⟨mm_in 1238 (by decide +kernel) rfl, mm_in 1240 (by decide +kernel) rfl, mm_in 57 (by decide +kernel) rfl, mm_in 74 (by decide +kernel) rfl, mm_in 1241 (by decide +kernel) rfl, ⟨by decide +kernel, by decide +kernel, by decide +kernel⟩⟩
theorem fG_X8_44 : mm_fld RX8 44 8 18 := ⟨_, TX8, 32, rfl, by decide, mm_in 930 (by decide +kernel) rfl, inX8⟩
theorem fG_X8_47 : mm_fld RX8 47 8 19 := ⟨_, TX8, 32, rfl, by decide, mm_in 931 (by decide +kernel) rfl, inX8⟩
theorem cV_X8_256 : mm_cv RX8 256 mX8_menOf 4 := ⟨mm_in 1251 (by decide +kernel) rfl, mm_in 1253 (by decide +kernel) rfl, mm_in 59 (by decide +kernel) rfl, mm_in 74 (by decide +kernel) rfl, mm_in 1254 (by decide +kernel) rfl, ⟨by decide +kernel, by decide +kernel, by decide +kernel⟩⟩
theorem cV_X8_262 : mm_cv RX8 262 mX8_payOf 1 := ⟨mm_in 1255 (by decide +kernel) rfl, mm_in 1257 (by decide +kernel) rfl, mm_in 60 (by decide +kernel) rfl, mm_in 74 (by decide +kernel) rfl, mm_in 1258 (by decide +kernel) rfl, ⟨by decide +kernel, by decide +kernel, by decide +kernel⟩⟩
theorem cV_X8_265 : mm_cv RX8 265 mX8_canBy 2 := ⟨mm_in 1259 (by decide +kernel) rfl, mm_in 1261 (by decide +kernel) rfl, mm_in 61 (by decide +kernel) rfl, mm_in 74 (by decide +kernel) rfl, mm_in 1262 (by decide +kernel) rfl, ⟨by decide +kernel, by decide +kernel, by decide +kernel⟩⟩
theorem cV_X8_259 : mm_cv RX8 259 mX8_findEnough 4 := ⟨mm_in 1247 (by decide +kernel) rfl, mm_in 1249 (by decide +kernel) rfl, mm_in 58 (by decide +kernel) rfl, mm_in 74 (by decide +kernel) rfl, mm_in 1250 (by decide +kernel) rfl, ⟨by decide +kernel, by decide +kernel, by decide +kernel⟩⟩
theorem ki_4_354 : vp_in (4 : Int32) 354 := mm_ib_in (by decide +kernel)
theorem ks_336 : (Int16.ofInt (336)).toInt32 = 336 := by decide
theorem cV_X8_268 : mm_cv RX8 268 mX8_areSo 2 := ⟨mm_in 1287 (by decide +kernel) rfl, mm_in 1289 (by decide +kernel) rfl, mm_in 63 (by decide +kernel) rfl, mm_in 74 (by decide +kernel) rfl, mm_in 1290 (by decide +kernel) rfl, ⟨by decide +kernel, by decide +kernel, by decide +kernel⟩⟩
theorem fG_X8_271 : mm_fld RX8 271 8 27 := ⟨_, TX8, 32, rfl, by decide, mm_in 939 (by decide +kernel) rfl, inX8⟩
theorem fP_X8_271 : mm_fldP RX8 271 8 27 .int false := ⟨_, TX8, 32, tyX8, rfl, by decide, mm_in 939 (by decide +kernel) rfl, inX8, tyX8_ok, nmX8, rfl, by decide +kernel⟩
theorem fP_X8_274 : mm_fldP RX8 274 8 28 .int false := ⟨_, TX8, 32, tyX8, rfl, by decide, mm_in 940 (by decide +kernel) rfl, inX8, tyX8_ok, nmX8, rfl, by decide +kernel⟩
theorem fP_X8_277 : mm_fldP RX8 277 8 29 .int false := ⟨_, TX8, 32, tyX8, rfl, by decide, mm_in 941 (by decide +kernel) rfl, inX8, tyX8_ok, nmX8, rfl, by decide +kernel⟩
theorem fP_X8_280 : mm_fldP RX8 280 8 30 .int false := ⟨_, TX8, 32, tyX8, rfl, by decide, mm_in 942 (by decide +kernel) rfl, inX8, tyX8_ok, nmX8, rfl, by decide +kernel⟩
theorem cV_X8_283 : mm_cv RX8 283 mX8_tryDead 3 := ⟨mm_in 1283 (by decide +kernel) rfl, mm_in 1285 (by decide +kernel) rfl, mm_in 62 (by decide +kernel) rfl, mm_in 74 (by decide +kernel) rfl, mm_in 1286 (by decide +kernel) rfl, ⟨by decide +kernel, by decide +kernel, by decide +kernel⟩⟩
theorem fG_X8_280 : mm_fld RX8 280 8 30 := ⟨_, TX8, 32, rfl, by decide, mm_in 942 (by decide +kernel) rfl, inX8⟩
theorem fG_X8_277 : mm_fld RX8 277 8 29 := ⟨_, TX8, 32, rfl, by decide, mm_in 941 (by decide +kernel) rfl, inX8⟩
theorem fG_X8_274 : mm_fld RX8 274 8 28 := ⟨_, TX8, 32, rfl, by decide, mm_in 940 (by decide +kernel) rfl, inX8⟩
theorem fG_X8_63 : mm_fld RX8 63 8 31 := ⟨_, TX8, 32, rfl, by decide, mm_in 943 (by decide +kernel) rfl, inX8⟩
theorem cV_X8_286 : mm_cv RX8 286 mX8_isUnlike 3 := ⟨mm_in 1295 (by decide +kernel) rfl, mm_in 1297 (by decide +kernel) rfl, mm_in 64 (by decide +kernel) rfl, mm_in 74 (by decide +kernel) rfl, mm_in 1298 (by decide +kernel) rfl, ⟨by decide +kernel, by decide +kernel, by decide +kernel⟩⟩
theorem fG_X8_19 : mm_fld RX8 19 8 3 := ⟨_, TX8, 32, rfl, by decide, mm_in 915 (by decide +kernel) rfl, inX8⟩
theorem fG_X8_16 : mm_fld RX8 16 8 2 := ⟨_, TX8, 32, rfl, by decide, mm_in 914 (by decide +kernel) rfl, inX8⟩
theorem kC_X8_289 : Cond.constantLong RX8 289 (673) ∈ mm_big := mm_in 1319 (by decide +kernel) rfl
theorem kC_X8_291 : Cond.constantLong RX8 291 (31) ∈ mm_big := mm_in 1320 (by decide +kernel) rfl
