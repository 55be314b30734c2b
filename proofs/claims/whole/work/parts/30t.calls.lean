/-! CALLS THAT ASK FOR WORDS: both answer alike -/
def WR (wd hi sl te lt re : Int32) (kinds painOf payFor refused : Nat → Int32) (owned litIn : Nat → Int64) (shapes readAt meant readSo : Nat → Int32) (s : Nat → Nat) : Prop := (wd = nI (s 0) ∧ hi = nI (s 1) ∧ sl = nI (s 5) ∧ te = nI (s 2) ∧ lt = nI (s 3) ∧ re = nI (s 4)) ∧ TR s kinds painOf payFor refused owned ∧ LR s litIn ∧ HR s shapes ∧ DR s readAt meant readSo
theorem b_t : ¬ bI true = 0 := by decide
theorem b_f : bI false = 0 := by decide
theorem okB_v {s : Nat → Nat} {v : Int32} (h : okB s (vN v) = true) : okW s (vN v) ∧ v = nI (vN v) := by
  have := okB_iff.mp h
  exact ⟨this, vN_e (by have := this.2.1; omega)⟩
section
variable {fu : Nat} {s : Nat → Nat}
theorem q_least {q_wall_wide : Int32} {q_wall_high : Int32} {q_wall_slackNow : Int32} {q_wall_tenants : Int32} {q_wall_letters : Int32} {q_wall_readings : Int32} {q_wall_kinds : Nat → Int32} {q_wall_painOf : Nat → Int32} {q_wall_payFor : Nat → Int32} {q_wall_refused : Nat → Int32} {q_wall_owned : Nat → Int64} {q_wall_litIn : Nat → Int64} {q_wall_shapes : Nat → Int32} {q_wall_readAt : Nat → Int32} {q_wall_meant : Nat → Int32} {q_wall_readSo : Nat → Int32} {u_st u_refused u_ones : Nat → Int32} {q_wereBad q_wereNo q_wereFull : Int32} {q_asked_length : Int32} {q_asked_bits : Int32} {q_asked_letters : Nat → Int32} {q_leastPains_pains : Int32} {q_leastPains_windows : Nat → Int32} {q_leastPains_shapes : Nat → Int32} {q_leastPains_places_y : Int32} {q_leastPains_places_boxes : Int32} {q_leastPains_places_lastColumn : Int32} {q_leastPains_places_lastTop : Int32} {q_leastPains_places_columns : Nat → Int32} {q_leastPains_deviations : Nat → Int32} {q_leastPains_painsOfCell : Nat → Int32} {q_leastPains_painsAt_0 : Nat → Int32} {q_leastPains_painsAt_1 : Nat → Int32} {q_leastPains_painsAt_2 : Nat → Int32} {q_leastPains_shapeAt_0 : Nat → Int32} {q_leastPains_shapeAt_1 : Nat → Int32} {q_leastPains_shapeAt_2 : Nat → Int32} {u_line : Int32} {u_foundPains : Int32} {u_foundLine : Int32} {u_readTable : Nat → Int32} {u_least : Nat → Int32} {u_made : Nat → Int32} {u_column : Nat → Int32} {u_foundColumn : Nat → Int32} (v1 : Int32) (v2 : Int32) (hf : 5000 ≤ fu) (I : Iv s) (W : WR q_wall_wide q_wall_high q_wall_slackNow q_wall_tenants q_wall_letters q_wall_readings q_wall_kinds q_wall_painOf q_wall_payFor q_wall_refused q_wall_owned q_wall_litIn q_wall_shapes q_wall_readAt q_wall_meant q_wall_readSo s) (R : SR u_st s) (hS : SS u_refused q_wereBad q_wereNo q_wereFull) (hD : DV q_leastPains_deviations) (hO : ∀ k, k < 4096 → u_ones k = nI (pc k)) : ∃ r u, f_X7_least fu q_wereBad q_wereNo q_wereFull q_wall_wide q_wall_high q_wall_slackNow q_wall_tenants q_wall_letters q_wall_kinds q_wall_painOf q_wall_refused q_wall_owned q_wall_litIn q_wall_shapes q_asked_length q_asked_bits q_asked_letters q_leastPains_pains q_leastPains_windows q_leastPains_shapes q_leastPains_places_y q_leastPains_places_boxes q_leastPains_places_lastColumn q_leastPains_places_lastTop q_leastPains_places_columns q_leastPains_deviations q_leastPains_painsOfCell q_leastPains_painsAt_0 q_leastPains_painsAt_1 q_leastPains_painsAt_2 q_leastPains_shapeAt_0 q_leastPains_shapeAt_1 q_leastPains_shapeAt_2 v1 v2 = some r ∧ f_X8_least fu u_line u_foundPains u_foundLine u_st u_refused u_ones u_readTable u_least u_made u_column u_foundColumn v1 v2 = some u ∧ r.1 = u.1 ∧ SS u.2.2.2.2.1 r.2.1 r.2.2.1 r.2.2.2.1 := by
  obtain ⟨⟨rfl, rfl, rfl, rfl, rfl, rfl⟩, T, L, S, D⟩ := W
  obtain ⟨r, e, g1, g2⟩ := x7_isAsked (fu := fu) (l0 := q_asked_length) (b0 := q_asked_bits) (le := q_asked_letters) hf I.2.2.2.1 v1 v2
  rw [f_X7_least, f_X8_least, e, pz_bind, x8_isWord hf I R, pz_bind, g1]
  cases hok : okB s (vN v1)
  · rw [Bool.and_false, if_pos b_f, if_pos b_f, c_bad, pz_bind, X8_least_J15, t_bad, pz_bind]
    exact ⟨_, _, rfl, rfl, rfl, SS_bad hS⟩
  · rw [if_neg b_t, x8_isHour, pz_bind]
    by_cases hh : vN v2 < 4
    · obtain ⟨hw, ev⟩ := okB_v hok
      have ev2 := vN_e (v := v2) (by omega)
      rw [hok, decide_eq_true hh] at g2
      obtain ⟨g3, bits, g4, g5⟩ := g2 rfl
      rw [decide_eq_true hh, Bool.and_true, if_neg b_t, if_neg b_t, g3, g4]
      generalize vN v1 = w at *
      generalize vN v2 = h at *
      subst ev
      subst ev2
      obtain ⟨r1, e1, a1, a2⟩ := x1_find (fu := fu) (q0 := q_leastPains_pains) (y := q_leastPains_places_y) (bo := q_leastPains_places_boxes) (lc := q_leastPains_places_lastColumn) (lt := q_leastPains_places_lastTop) (wi := q_leastPains_windows) (sh := q_leastPains_shapes) (co := q_leastPains_places_columns) (poc := q_leastPains_painsOfCell) (p0 := q_leastPains_painsAt_0) (p1 := q_leastPains_painsAt_1) (p2 := q_leastPains_painsAt_2) (s0 := q_leastPains_shapeAt_0) (s1 := q_leastPains_shapeAt_1) (s2 := q_leastPains_shapeAt_2) hf I T L S hD hh hw g5
      obtain ⟨r8, e8, b1, b2, b3⟩ := x8_findWord (fu := fu) (l0 := u_line) (fp0 := u_foundPains) (fl0 := u_foundLine) (rt := u_readTable) (le := u_least) (ma := u_made) (co := u_column) (fc := u_foundColumn) hf I R hO hh hw
      rw [e1, pz_bind, e8, pz_bind]
      exact ⟨_, _, rfl, rfl, by rw [a1, b1], hS⟩
    · rw [decide_eq_false hh, Bool.false_and, if_pos b_f, if_pos b_f, c_bad, pz_bind, X8_least_J15, t_bad, pz_bind]
      exact ⟨_, _, rfl, rfl, rfl, SS_bad hS⟩
theorem q_box {q_wall_wide : Int32} {q_wall_high : Int32} {q_wall_slackNow : Int32} {q_wall_tenants : Int32} {q_wall_letters : Int32} {q_wall_readings : Int32} {q_wall_kinds : Nat → Int32} {q_wall_painOf : Nat → Int32} {q_wall_payFor : Nat → Int32} {q_wall_refused : Nat → Int32} {q_wall_owned : Nat → Int64} {q_wall_litIn : Nat → Int64} {q_wall_shapes : Nat → Int32} {q_wall_readAt : Nat → Int32} {q_wall_meant : Nat → Int32} {q_wall_readSo : Nat → Int32} {u_st u_refused u_ones : Nat → Int32} {q_wereBad q_wereNo q_wereFull : Int32} {q_asked_length : Int32} {q_asked_bits : Int32} {q_asked_letters : Nat → Int32} {q_leastPains_pains : Int32} {q_leastPains_windows : Nat → Int32} {q_leastPains_shapes : Nat → Int32} {q_leastPains_places_y : Int32} {q_leastPains_places_boxes : Int32} {q_leastPains_places_lastColumn : Int32} {q_leastPains_places_lastTop : Int32} {q_leastPains_places_columns : Nat → Int32} {q_leastPains_deviations : Nat → Int32} {q_leastPains_painsOfCell : Nat → Int32} {q_leastPains_painsAt_0 : Nat → Int32} {q_leastPains_painsAt_1 : Nat → Int32} {q_leastPains_painsAt_2 : Nat → Int32} {q_leastPains_shapeAt_0 : Nat → Int32} {q_leastPains_shapeAt_1 : Nat → Int32} {q_leastPains_shapeAt_2 : Nat → Int32} {u_line : Int32} {u_foundPains : Int32} {u_foundLine : Int32} {u_readTable : Nat → Int32} {u_least : Nat → Int32} {u_made : Nat → Int32} {u_column : Nat → Int32} {u_foundColumn : Nat → Int32} (v1 : Int32) (v2 : Int32) (v3 : Int32) (v4 : Int32) (hf : 5000 ≤ fu) (I : Iv s) (W : WR q_wall_wide q_wall_high q_wall_slackNow q_wall_tenants q_wall_letters q_wall_readings q_wall_kinds q_wall_painOf q_wall_payFor q_wall_refused q_wall_owned q_wall_litIn q_wall_shapes q_wall_readAt q_wall_meant q_wall_readSo s) (R : SR u_st s) (hS : SS u_refused q_wereBad q_wereNo q_wereFull) (hD : DV q_leastPains_deviations) (hO : ∀ k, k < 4096 → u_ones k = nI (pc k)) : ∃ r u, f_X7_box fu q_wereBad q_wereNo q_wereFull q_wall_wide q_wall_high q_wall_slackNow q_wall_tenants q_wall_letters q_wall_kinds q_wall_painOf q_wall_refused q_wall_owned q_wall_litIn q_wall_shapes q_asked_length q_asked_bits q_asked_letters q_leastPains_pains q_leastPains_windows q_leastPains_shapes q_leastPains_places_y q_leastPains_places_boxes q_leastPains_places_lastColumn q_leastPains_places_lastTop q_leastPains_places_columns q_leastPains_deviations q_leastPains_painsOfCell q_leastPains_painsAt_0 q_leastPains_painsAt_1 q_leastPains_painsAt_2 q_leastPains_shapeAt_0 q_leastPains_shapeAt_1 q_leastPains_shapeAt_2 v1 v2 v3 v4 = some r ∧ f_X8_box fu u_line u_foundPains u_foundLine u_st u_refused u_ones u_readTable u_least u_made u_column u_foundColumn v1 v2 v3 v4 = some u ∧ r.1 = u.1 ∧ SS u.2.2.2.2.1 r.2.1 r.2.2.1 r.2.2.2.1 := by
  obtain ⟨⟨rfl, rfl, rfl, rfl, rfl, rfl⟩, T, L, S, D⟩ := W
  obtain ⟨r, e, g1, g2⟩ := x7_isAsked (fu := fu) (l0 := q_asked_length) (b0 := q_asked_bits) (le := q_asked_letters) hf I.2.2.2.1 v1 v2
  rw [f_X7_box, f_X8_box, e, pz_bind, x8_isWord hf I R, pz_bind, g1]
  cases hok : okB s (vN v1)
  · rw [Bool.and_false, if_pos b_f, if_pos b_f, X7_box_J24, ca_bad, pz_bind, X8_box_J29, t_not, pz_bind]
    exact ⟨_, _, rfl, rfl, rfl, SS_bad hS⟩
  · rw [if_neg b_t, x8_isHour, pz_bind]
    by_cases hh : vN v2 < 4
    · obtain ⟨hw, ev⟩ := okB_v hok
      have ev2 := vN_e (v := v2) (by omega)
      rw [hok, decide_eq_true hh] at g2
      obtain ⟨g3, bits, g4, g5⟩ := g2 rfl
      rw [decide_eq_true hh, Bool.and_true, if_neg b_t, if_neg b_t, g3, g4]
      generalize vN v1 = w at *
      generalize vN v2 = h at *
      subst ev
      subst ev2
      have hr := wl_rng w
      have hw6 : w ≤ 666 := hw.2.1
      by_cases h3 : v3 < 0
      · rw [if_pos h3, if_pos h3, X7_box_J24, ca_bad, pz_bind, X8_box_J29, t_not, pz_bind]
        exact ⟨_, _, rfl, rfl, rfl, SS_bad hS⟩
      · rw [if_neg h3, if_neg h3, show f_X8_in fu v4 0 1 = _ from x8_in (lo := 0) (hi := 1) (by decide) (by decide) v4, pz_bind]
        obtain ⟨i, hi, rfl⟩ := nI_of h3
        by_cases h4 : vN v4 ≤ 1
        · have ev4 := vN_e (v := v4) (by omega)
          have n4 : ¬ v4 < 0 := by rw [ev4]; exact nI_pos (by omega)
          have l4 : v4 ≤ 1 := by rw [ev4, pz_c1, pz_le (by omega) (by decide)]; exact h4
          rw [if_neg n4, if_pos l4, decide_eq_true (show 0 ≤ vN v4 ∧ vN v4 ≤ 1 from ⟨Nat.zero_le _, h4⟩), if_neg b_t]
          obtain ⟨r1, e1, a1, a2⟩ := x1_find (fu := fu) (q0 := q_leastPains_pains) (y := q_leastPains_places_y) (bo := q_leastPains_places_boxes) (lc := q_leastPains_places_lastColumn) (lt := q_leastPains_places_lastTop) (wi := q_leastPains_windows) (sh := q_leastPains_shapes) (co := q_leastPains_places_columns) (poc := q_leastPains_painsOfCell) (p0 := q_leastPains_painsAt_0) (p1 := q_leastPains_painsAt_1) (p2 := q_leastPains_painsAt_2) (s0 := q_leastPains_shapeAt_0) (s1 := q_leastPains_shapeAt_1) (s2 := q_leastPains_shapeAt_2) hf I T L S hD hh hw g5
          obtain ⟨r8, e8, b1, b2, b3⟩ := x8_findWord (fu := fu) (l0 := u_line) (fp0 := u_foundPains) (fl0 := u_foundLine) (rt := u_readTable) (le := u_least) (ma := u_made) (co := u_column) (fc := u_foundColumn) hf I R hO hh hw
          rw [e1, pz_bind, e8, pz_bind, a1, b1]
          have hN := pl_le I.1 I.2.1 hr
          have hBr : (BP s h w).1 = 65535 ∨ (BP s h w).1 ≤ 756 := bestW_rng (fun j hj => TT_rng I hj)
          rcases hBr with hB | hB
          · rw [hB, eI_N, if_pos (show -nI 1 = -1 from rfl), if_pos (show -nI 1 = -1 from rfl), X7_box_J74, X8_box_J58]
            exact ⟨_, _, rfl, rfl, rfl, hS⟩
          · have hne : (BP s h w).1 ≠ 65535 := by omega
            have nn : ¬ eI (BP s h w).1 = -1 := by
              rw [eI_of (by omega), pz_c1, pz_eqm (by omega) (by decide) (by decide)]; exact id
            rw [if_neg nn, if_neg nn, x8_longOf (by omega), pz_bind]
            have c3 := a2 hne
            obtain ⟨d1, d2⟩ := b3 hne
            have hbs := best_spec (f := TT s h w) (PN (s 0) (s 1) (wl w)) (fun k hk => by rcases TT_rng (h := h) I hk with q | q <;> omega)
            have hlt : (BP s h w).2 < PN (s 0) (s 1) (wl w) := by
              rcases hbs with ⟨q, -⟩ | ⟨-, q, -⟩
              · exact absurd q hne
              · exact q
            have hp := (pl_at I.1 I.2.1 hr (k := (BP s h w).2) (by omega)).1 hlt
            by_cases hil : i < wl w
            · have q1 : ¬ nI (wl w) ≤ nI i := by rw [pz_le (by omega) hi]; omega
              have q2 : nI i < nI (wl w) := by rw [pz_lt hi (by omega)]; exact hil
              have q3 : nI i < 3 := by rw [pz_c3, pz_lt hi (by decide)]; omega
              have hb := pok_box I (by omega) hp hil
              have hbl := boxB_lt I hb
              have hLM := (b2 i hil _ hb).2
              have hBX : (BX s h w i (12 * (plk (s 0) (wl w) (BP s h w).2).1 + pcol (plk (s 0) (wl w) (BP s h w).2) i)).1 ≠ 65535 := by
                have ht : TT s h w (BP s h w).2 ≠ 65535 := by
                  rcases hbs with ⟨q, -⟩ | ⟨-, -, q, -⟩
                  · exact absurd q hne
                  · show TT s h w (best (TT s h w) (PN (s 0) (s 1) (wl w))).2 ≠ 65535
                    rw [q]; exact hne
                exact tot_N ht i hil
              have hB2 : (BX s h w i (12 * (plk (s 0) (wl w) (BP s h w).2).1 + pcol (plk (s 0) (wl w) (BP s h w).2) i)).2 < 4096 := by
                have hbs2 := best_spec (f := bxF s h w (12 * (plk (s 0) (wl w) (BP s h w).2).1 + pcol (plk (s 0) (wl w) (BP s h w).2) i) (wd w i)) 4096 (fun k _ => by rcases bxF_rng (h := h) (w := w) (j := wd w i) (x := k) I hbl with q | q <;> omega)
                rcases hbs2 with ⟨q, -⟩ | ⟨-, q, -⟩
                · exact absurd q hBX
                · exact q
              rw [if_neg q1, if_pos q3, if_pos q2, pz_rd r8.2.2.2.2.2.2.2 _ (show i < 3 by omega) (by omega), d1, d2 i hil, pz_let]
              have e12 : (12 : Int32) * nI (plk (s 0) (wl w) (BP s h w).2).1 + nI (pcol (plk (s 0) (wl w) (BP s h w).2) i) = nI (12 * (plk (s 0) (wl w) (BP s h w).2).1 + pcol (plk (s 0) (wl w) (BP s h w).2) i) := by
                rw [pz_c12, pk_mul, nI_add]
              rw [e12]
              by_cases hz : v4 = 0
              · rw [if_pos hz, if_pos hz, pz_rd _ _ (by omega) (by omega)]
                exact ⟨_, _, rfl, rfl, (c3 i hil).1, hS⟩
              · have e24 : (24 : Int32) * nI i + nI (12 * (plk (s 0) (wl w) (BP s h w).2).1 + pcol (plk (s 0) (wl w) (BP s h w).2) i) = nI (24 * i + (12 * (plk (s 0) (wl w) (BP s h w).2).1 + pcol (plk (s 0) (wl w) (BP s h w).2) i)) := by
                  rw [pz_c24, pk_mul, nI_add]
                rw [if_neg hz, if_neg hz, pz_rd _ _ (by omega) (by omega), e24, pz_rd _ _ (by omega) (by omega)]
                refine ⟨_, _, rfl, rfl, ?_, hS⟩
                show r1.2.2.1 i = _
                rw [(c3 i hil).2, hLM, eI_of (by omega)]
            · have q1 : nI (wl w) ≤ nI i := by rw [pz_le (by omega) hi]; omega
              have q2 : ¬ nI i < nI (wl w) := by rw [pz_lt hi (by omega)]; exact hil
              rw [if_pos q1, if_neg q2, X7_box_J74, X8_box_J58]
              exact ⟨_, _, rfl, rfl, rfl, hS⟩
        · rw [decide_eq_false (show ¬ (0 ≤ vN v4 ∧ vN v4 ≤ 1) from fun q => h4 q.2), if_pos b_f, X8_box_J29, t_not, pz_bind]
          by_cases n4 : v4 < 0
          · rw [if_pos n4, X7_box_J24, ca_bad, pz_bind]
            exact ⟨_, _, rfl, rfl, rfl, SS_bad hS⟩
          · have l4 : ¬ v4 ≤ 1 := by
              obtain ⟨q, hq, rfl⟩ := nI_of n4
              rw [vN_n hq] at h4
              rw [pz_c1, pz_le hq (by decide)]; exact h4
            rw [if_neg n4, if_neg l4, X7_box_J24, ca_bad, pz_bind]
            exact ⟨_, _, rfl, rfl, rfl, SS_bad hS⟩
    · rw [decide_eq_false hh, Bool.false_and, if_pos b_f, if_pos b_f, X7_box_J24, ca_bad, pz_bind, X8_box_J29, t_not, pz_bind]
      exact ⟨_, _, rfl, rfl, rfl, SS_bad hS⟩
end
