/-! TWO: the fewest that differ, and the call -/
section
variable {fu : Nat} {s : Nat → Nat} {A B : List Nat}
theorem xor60 {a b : Nat} (ha : a < 2 ^ 60) (hb : b < 2 ^ 60) : a ^^^ b < 2 ^ 60 := Nat.xor_lt_two_pow ha hb
theorem mnj_s {a m j : Nat} : mnj a B m (j + 1) = if ctN (a ^^^ B.getD j 0).testBit 60 < mnj a B m j then ctN (a ^^^ B.getD j 0).testBit 60 else mnj a B m j := rfl
theorem fu_in {rec4 : Int32 → Int32 → Option Int32} {la lb : Nat → Int64} {i m : Nat} (hf : 5000 ≤ fu) (hA : AL la 0 A) (hB : AL lb 0 B) (hi : i < A.length) (hAl : A.length ≤ 42) (hBl : B.length ≤ 42) (hA6 : ∀ x, x ∈ A → x < 2 ^ 60) (hB6 : ∀ x, x ∈ B → x < 2 ^ 60) (hm : m = 65535 ∨ m ≤ 60) : X2_fewestUnlike_L15 fu rec4 (nI A.length) la (nI B.length) lb (nI i) fu (eI m) (nI 0) = rec4 (eI (mnj (A.getD i 0) B m B.length)) (nI (i + 1)) := by
  refine pz_up (fun n j => X2_fewestUnlike_L15 fu rec4 (nI A.length) la (nI B.length) lb (nI i) n (eI (mnj (A.getD i 0) B m j)) (nI j)) B.length _ (fun n j hj => ?_) (fun n => ?_) fu 0 (by omega) (by omega)
  · have ea := hA i hi
    have eb := hB j hj
    rw [Nat.zero_add] at ea eb
    have ej := j13 (fu := fu) (xor60 (getD_lt hA6 (by decide) i) (getD_lt hB6 (by decide) j))
    have hc := ctN_le (A.getD i 0 ^^^ B.getD j 0).testBit 60
    have hr := mnj_rng (a := A.getD i 0) (B := B) hm j
    rw [mnj_s, X2_fewestUnlike_L15]
    generalize X2_fewestUnlike_L15 fu rec4 (nI A.length) la (nI B.length) lb (nI i) n = rec
    generalize mnj (A.getD i 0) B m j = M at *
    rw [if_neg (by rw [pz_le (by omega) (by omega)]; omega), pz_rd _ _ (by omega) (by omega), pz_rd _ _ (by omega) (by omega), ea, eb, pz_xorL, ej, pz_bind]
    generalize ctN (A.getD i 0 ^^^ B.getD j 0).testBit 60 = t at *
    rcases hr with e | e
    · rw [e, eI_N, if_pos (show -nI 1 = -1 from rfl), X2_fewestUnlike_J54, X2_fewestUnlike_J57, if_pos (by omega), eI_of (by omega), nI_1]
    · rw [eI_of (n := M) (by omega), if_neg (by rw [pz_c1, pz_eqm (by omega) (by decide) (by decide)]; exact id)]
      by_cases hq : M ≤ t
      · rw [if_pos (by rw [pz_le (by omega) (by omega)]; exact hq), X2_fewestUnlike_J57, if_neg (by omega), nI_1, eI_of (by omega)]
      · rw [if_neg (by rw [pz_le (by omega) (by omega)]; exact hq), X2_fewestUnlike_J54, X2_fewestUnlike_J57, if_pos (by omega), nI_1, eI_of (by omega)]
  · rw [X2_fewestUnlike_L15]
    generalize X2_fewestUnlike_L15 fu rec4 (nI A.length) la (nI B.length) lb (nI i) n = rec
    rw [if_pos (by rw [pz_le (by omega) (by omega)]; omega), nI_1]
theorem x2_fewestUnlike {la lb : Nat → Int64} (hf : 5000 ≤ fu) (hA : AL la 0 A) (hB : AL lb 0 B) (hAl : A.length ≤ 42) (hBl : B.length ≤ 42) (hA6 : ∀ x, x ∈ A → x < 2 ^ 60) (hB6 : ∀ x, x ∈ B → x < 2 ^ 60) : f_X2_fewestUnlike fu (nI A.length) la (nI B.length) lb = some (eI (mni A B A.length)) := by
  rw [f_X2_fewestUnlike]
  refine pz_up (fun n i => X2_fewestUnlike_L4 fu (nI A.length) la (nI B.length) lb n (eI (mni A B i)) (nI i)) A.length _ (fun n i hi => ?_) (fun n => ?_) fu 0 (by omega) (by omega)
  · have e := fu_in (rec4 := X2_fewestUnlike_L4 fu (nI A.length) la (nI B.length) lb n) hf hA hB hi hAl hBl hA6 hB6 (mni_rng (A := A) (B := B) i)
    rw [X2_fewestUnlike_L4, if_neg (by rw [pz_le (by omega) (by omega)]; omega)]
    exact e
  · rw [X2_fewestUnlike_L4, if_pos (by rw [pz_le (by omega) (by omega)]; omega)]
theorem tw_in {rec59 : Int32 → Int32 → Option (Int32 × Int32 × (Nat → Int32) × (Nat → Int32) × (Nat → Int64) × (Nat → Int32))} {ln : Int32} {st rf ones co wm : Nat → Int32} {wa : Nat → Int64} {i m : Nat} (hf : 5000 ≤ fu) (hO : ∀ k, k < 4096 → ones k = nI (pc k)) (hA : AL wa 0 A) (hB : AL wa 64 B) (hw1 : wm 1 = nI B.length) (hi : i < A.length) (hAl : A.length ≤ 42) (hBl : B.length ≤ 42) (hA6 : ∀ x, x ∈ A → x < 2 ^ 60) (hB6 : ∀ x, x ∈ B → x < 2 ^ 60) (hm : m = 65535 ∨ m ≤ 60) : X8_two_L73 fu rec59 ln st rf ones co wa wm (nI i) fu (eI m) (nI 0) = rec59 (eI (mnj (A.getD i 0) B m B.length)) (nI (i + 1)) := by
  refine pz_up (fun n j => X8_two_L73 fu rec59 ln st rf ones co wa wm (nI i) n (eI (mnj (A.getD i 0) B m j)) (nI j)) B.length _ (fun n j hj => ?_) (fun n => ?_) fu 0 (by omega) (by omega)
  · have ea := hA i hi
    have eb := hB j hj
    rw [Nat.zero_add] at ea
    have ej := x8_onesOf (fu := fu) hf hO (xor60 (getD_lt hA6 (by decide) i) (getD_lt hB6 (by decide) j))
    have hc := ctN_le (A.getD i 0 ^^^ B.getD j 0).testBit 60
    have hr := mnj_rng (a := A.getD i 0) (B := B) hm j
    rw [mnj_s, X8_two_L73]
    generalize X8_two_L73 fu rec59 ln st rf ones co wa wm (nI i) n = rec
    generalize mnj (A.getD i 0) B m j = M at *
    rw [hw1, if_neg (by rw [pz_le (by omega) (by omega)]; omega), pz_rd _ _ (by omega) (by omega), pz_c64, nI_add, pz_rd _ _ (by omega) (by omega), ea, eb, pz_xorL, ej, pz_bind]
    generalize ctN (A.getD i 0 ^^^ B.getD j 0).testBit 60 = t at *
    rcases hr with e | e
    · rw [e, eI_N, if_pos (show -nI 1 = -1 from rfl), X8_two_J121, X8_two_J128, if_pos (by omega), eI_of (by omega), nI_1]
    · rw [eI_of (n := M) (by omega), if_neg (by rw [pz_c1, pz_eqm (by omega) (by decide) (by decide)]; exact id)]
      by_cases hq : M ≤ t
      · rw [if_pos (by rw [pz_le (by omega) (by omega)]; exact hq), X8_two_J128, if_neg (by omega), nI_1, eI_of (by omega)]
      · rw [if_neg (by rw [pz_le (by omega) (by omega)]; exact hq), X8_two_J121, X8_two_J128, if_pos (by omega), nI_1, eI_of (by omega)]
  · rw [X8_two_L73]
    generalize X8_two_L73 fu rec59 ln st rf ones co wa wm (nI i) n = rec
    rw [hw1, if_pos (by rw [pz_le (by omega) (by omega)]; omega), nI_1]
theorem tw_all {ln : Int32} {st rf ones co wm : Nat → Int32} {wa : Nat → Int64} (hf : 5000 ≤ fu) (hO : ∀ k, k < 4096 → ones k = nI (pc k)) (hA : AL wa 0 A) (hB : AL wa 64 B) (hw0 : wm 0 = nI A.length) (hw1 : wm 1 = nI B.length) (hAl : A.length ≤ 42) (hBl : B.length ≤ 42) (hA6 : ∀ x, x ∈ A → x < 2 ^ 60) (hB6 : ∀ x, x ∈ B → x < 2 ^ 60) : X8_two_L59 fu ln st rf ones co wa wm fu (-1) 0 = some (eI (mni A B A.length), ln, rf, co, wa, wm) := by
  refine pz_up (fun n i => X8_two_L59 fu ln st rf ones co wa wm n (eI (mni A B i)) (nI i)) A.length _ (fun n i hi => ?_) (fun n => ?_) fu 0 (by omega) (by omega)
  · have e := tw_in (rec59 := X8_two_L59 fu ln st rf ones co wa wm n) (ln := ln) (st := st) (rf := rf) (co := co) hf hO hA hB hw1 hi hAl hBl hA6 hB6 (mni_rng (A := A) (B := B) i)
    rw [X8_two_L59, hw0, if_neg (by rw [pz_le (by omega) (by omega)]; omega)]
    exact e
  · rw [X8_two_L59, hw0, if_pos (by rw [pz_le (by omega) (by omega)]; omega)]
theorem q_two {q_wall_wide : Int32} {q_wall_high : Int32} {q_wall_slackNow : Int32} {q_wall_tenants : Int32} {q_wall_letters : Int32} {q_wall_readings : Int32} {q_wall_kinds : Nat → Int32} {q_wall_painOf : Nat → Int32} {q_wall_payFor : Nat → Int32} {q_wall_refused : Nat → Int32} {q_wall_owned : Nat → Int64} {q_wall_litIn : Nat → Int64} {q_wall_shapes : Nat → Int32} {q_wall_readAt : Nat → Int32} {q_wall_meant : Nat → Int32} {q_wall_readSo : Nat → Int32} {u_st u_refused u_ones : Nat → Int32} {q_wereBad q_wereNo q_wereFull : Int32} {q_asked_length : Int32} {q_asked_bits : Int32} {q_asked_letters : Nat → Int32} {q_askedBeside_length : Int32} {q_askedBeside_bits : Int32} {q_askedBeside_letters : Nat → Int32} {q_pictures_known : Int32} {q_pictures_lights : Nat → Int64} {q_pictures_places_y : Int32} {q_pictures_places_boxes : Int32} {q_pictures_places_lastColumn : Int32} {q_pictures_places_lastTop : Int32} {q_pictures_places_columns : Nat → Int32} {q_otherPictures_known : Int32} {q_otherPictures_lights : Nat → Int64} {q_otherPictures_places_y : Int32} {q_otherPictures_places_boxes : Int32} {q_otherPictures_places_lastColumn : Int32} {q_otherPictures_places_lastTop : Int32} {q_otherPictures_places_columns : Nat → Int32} {u_line : Int32} {u_column : Nat → Int32} {u_walls : Nat → Int64} {u_wallMany : Nat → Int32} (v1 : Int32) (v2 : Int32) (v3 : Int32) (v4 : Int32) (hf : 5000 ≤ fu) (I : Iv s) (W : WR q_wall_wide q_wall_high q_wall_slackNow q_wall_tenants q_wall_letters q_wall_readings q_wall_kinds q_wall_painOf q_wall_payFor q_wall_refused q_wall_owned q_wall_litIn q_wall_shapes q_wall_readAt q_wall_meant q_wall_readSo s) (R : SR u_st s) (hS : SS u_refused q_wereBad q_wereNo q_wereFull) (hO : ∀ k, k < 4096 → u_ones k = nI (pc k)) : ∃ r u, f_X7_two fu q_wereBad q_wereNo q_wereFull q_wall_wide q_wall_high q_wall_tenants q_wall_letters q_wall_kinds q_wall_refused q_wall_owned q_wall_litIn q_wall_shapes q_asked_length q_asked_bits q_asked_letters q_askedBeside_length q_askedBeside_bits q_askedBeside_letters q_pictures_known q_pictures_lights q_pictures_places_y q_pictures_places_boxes q_pictures_places_lastColumn q_pictures_places_lastTop q_pictures_places_columns q_otherPictures_known q_otherPictures_lights q_otherPictures_places_y q_otherPictures_places_boxes q_otherPictures_places_lastColumn q_otherPictures_places_lastTop q_otherPictures_places_columns v1 v2 v3 v4 = some r ∧ f_X8_two fu u_line u_st u_refused u_ones u_column u_walls u_wallMany v1 v2 v3 v4 = some u ∧ r.1 = u.1 ∧ SS u.2.2.1 r.2.1 r.2.2.1 r.2.2.2.1 := by
  obtain ⟨⟨rfl, rfl, rfl, rfl, rfl, rfl⟩, T, L, S, D⟩ := W
  obtain ⟨r, e, g1, g2⟩ := x7_isAsked (fu := fu) (l0 := q_asked_length) (b0 := q_asked_bits) (le := q_asked_letters) hf I.2.2.2.1 v1 v2
  obtain ⟨rb, eb, b1, b2⟩ := x6_spell (fu := fu) (l0 := q_askedBeside_length) (b0 := q_askedBeside_bits) (le := q_askedBeside_letters) hf I.2.2.2.1 v3
  rw [f_X7_two, f_X8_two, e, pz_bind, x8_isWord hf I R, pz_bind, g1]
  cases hok : okB s (vN v1)
  · rw [Bool.and_false, if_pos b_f, if_pos b_f, X7_two_J35, c_bad, pz_bind, X8_two_J31, t_bad, pz_bind]
    exact ⟨_, _, rfl, rfl, rfl, SS_bad hS⟩
  · rw [if_neg b_t, x8_isHour, pz_bind]
    by_cases hh : vN v2 < 4
    · rw [decide_eq_true hh, Bool.and_true, if_neg b_t, if_neg b_t, x7_isHour, pz_bind, x8_isWord hf I R, pz_bind]
      have bad : ∃ rr uu, (X7_two_J35 fu q_wereBad q_wereNo q_wereFull (nI (s 0)) (nI (s 1)) (nI (s 2)) (nI (s 3)) q_wall_kinds q_wall_refused q_wall_owned q_wall_litIn q_wall_shapes r.2.1 r.2.2.1 r.2.2.2 q_askedBeside_length q_askedBeside_bits q_askedBeside_letters q_pictures_known q_pictures_lights q_pictures_places_y q_pictures_places_boxes q_pictures_places_lastColumn q_pictures_places_lastTop q_pictures_places_columns q_otherPictures_known q_otherPictures_lights q_otherPictures_places_y q_otherPictures_places_boxes q_otherPictures_places_lastColumn q_otherPictures_places_lastTop q_otherPictures_places_columns) = some rr ∧ (X8_two_J31 fu u_line u_st u_refused u_ones u_column u_walls u_wallMany) = some uu ∧ rr.1 = uu.1 ∧ SS uu.2.2.1 rr.2.1 rr.2.2.1 rr.2.2.2.1 := by
        rw [X7_two_J35, c_bad, pz_bind, X8_two_J31, t_bad, pz_bind]
        exact ⟨_, _, rfl, rfl, rfl, SS_bad hS⟩
      by_cases hh4 : vN v4 < 4
      · rw [decide_eq_true hh4, if_neg b_t, eb, pz_bind, b1]
        cases hok3 : okB s (vN v3)
        · rw [if_pos b_f, if_pos b_f, X7_two_J35, c_bad, pz_bind, X8_two_J31, t_bad, pz_bind]
          exact ⟨_, _, rfl, rfl, rfl, SS_bad hS⟩
        · rw [if_neg b_t, if_neg b_t, x8_isHour, pz_bind, decide_eq_true hh4, if_neg b_t]
          obtain ⟨hw, ev⟩ := okB_v hok
          have ev2 := vN_e (v := v2) (by omega)
          obtain ⟨hw3, ev3⟩ := okB_v hok3
          have ev4 := vN_e (v := v4) (by omega)
          rw [hok, decide_eq_true hh] at g2
          obtain ⟨g3, bits, g4, g5⟩ := g2 rfl
          obtain ⟨b3, bits3, b4, b5⟩ := b2 hok3
          rw [g3, g4, b3, b4]
          generalize vN v1 = w at *
          generalize vN v2 = h at *
          generalize vN v3 = w3 at *
          generalize vN v4 = h4 at *
          subst ev
          subst ev2
          subst ev3
          subst ev4
          obtain ⟨r1, e1, a1, a2⟩ := x2_find (fu := fu) (kn := q_pictures_known) (y := q_pictures_places_y) (bo := q_pictures_places_boxes) (lc := q_pictures_places_lastColumn) (lt := q_pictures_places_lastTop) (li := q_pictures_lights) (co := q_pictures_places_columns) hf I T L S hh hw g5
          obtain ⟨r2, e2, c1, c2⟩ := x2_find (fu := fu) (kn := q_otherPictures_known) (y := q_otherPictures_places_y) (bo := q_otherPictures_places_boxes) (lc := q_otherPictures_places_lastColumn) (lt := q_otherPictures_places_lastTop) (li := q_otherPictures_lights) (co := q_otherPictures_places_columns) hf I T L S hh4 hw3 b5
          obtain ⟨u1, f1, d1, d2, d3, d4⟩ := x8_findWalls (fu := fu) (l0 := u_line) (co := u_column) (wm := u_wallMany) (wa := u_walls) (q := 0) hf I R hh hw (by decide)
          obtain ⟨u2, f2, k1, k2, k3, k4⟩ := x8_findWalls (fu := fu) (l0 := u1.1) (co := u1.2.1) (wm := u1.2.2.2) (wa := u1.2.2.1) (q := 1) hf I R hh4 hw3 (by decide)
          have hr := wl_rng w
          have hr3 := wl_rng w3
          have hN := pl_le I.1 I.2.1 hr
          have hN3 := pl_le I.1 I.2.1 hr3
          have hl1 := WL_len (s := s) (h := h) (w := w) (PN (s 0) (s 1) (wl w))
          have hl2 := WL_len (s := s) (h := h4) (w := w3) (PN (s 0) (s 1) (wl w3))
          have m1 := WL_lt (s := s) (h := h) (w := w) (PN (s 0) (s 1) (wl w))
          have m2 := WL_lt (s := s) (h := h4) (w := w3) (PN (s 0) (s 1) (wl w3))
          generalize WL s h w (PN (s 0) (s 1) (wl w)) = P at *
          generalize WL s h4 w3 (PN (s 0) (s 1) (wl w3)) = Q at *
          have hA : AL u2.2.2.1 0 P := fun j hj => by
            have q1 := d2 j hj
            rw [Nat.mul_zero] at q1
            rw [k4 _ (Or.inl (by omega))]
            exact q1
          have hw0 : u2.2.2.2 0 = nI P.length := by rw [k3 0 (by decide)]; exact d1
          have ef := x2_fewestUnlike (fu := fu) hf a2 c2 (by omega) (by omega) m1 m2
          have eu := tw_all (fu := fu) (ln := u2.1) (st := u_st) (rf := u_refused) (co := u2.2.1) hf hO hA k2 hw0 k1 (by omega) (by omega) m1 m2
          rw [e1, pz_bind, e2, pz_bind, a1, c1, ef, pz_bind]
          rw [show f_X8_findWalls fu u_line u_st u_column u_walls u_wallMany 0 (nI w) (nI h) = some u1 from f1, pz_bind, show f_X8_findWalls fu u1.1 u_st u1.2.1 u1.2.2.1 u1.2.2.2 1 (nI w3) (nI h4) = some u2 from f2, pz_bind, eu]
          exact ⟨_, _, rfl, rfl, rfl, hS⟩
      · rw [decide_eq_false hh4, if_pos b_f]
        cases hok3 : okB s (vN v3)
        · rw [if_pos b_f]
          exact bad
        · rw [if_neg b_t, x8_isHour, pz_bind, decide_eq_false hh4, if_pos b_f]
          exact bad
    · rw [decide_eq_false hh, Bool.false_and, if_pos b_f, if_pos b_f, X7_two_J35, c_bad, pz_bind, X8_two_J31, t_bad, pz_bind]
      exact ⟨_, _, rfl, rfl, rfl, SS_bad hS⟩
end
