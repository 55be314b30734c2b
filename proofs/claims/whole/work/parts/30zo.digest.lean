/-! DIGEST: the class, and the call -/
section
variable {fu : Nat} {s : Nat → Nat} {kinds painOf payFor refused shapes readAt meant readSo : Nat → Int32} {owned litIn : Nat → Int64}
theorem x5_digestOfWindow {v : Int64} {c : Nat} (hf : 5000 ≤ fu) (I : Iv s) (T : TR s kinds painOf payFor refused owned) (L : LR s litIn) (hc : c < 60) : f_X5_digestOfWindow fu (nI (s 2)) owned litIn v (nI c) = some (gW s c v) := by
  rw [f_X5_digestOfWindow, x5_ownerOf hf I T hc, pz_bind, pz_let]
  refine pz_up (fun n k => X5_digestOfWindow_L17 fu (nI (s 2)) owned litIn (nI c) n (dgF (fun h => eI (s (96 + 60 * h + c))) k (hS v (eI (s (36 + c))))) (nI k)) 4 _ (fun n k hk => ?_) (fun n => ?_) fu 0 (by omega) (by omega)
  · have il := I.2.2.2.2.2.2.2.2.1 (60 * k + c) (by omega)
    rw [← Nat.add_assoc] at il
    rw [X5_digestOfWindow_L17]
    generalize X5_digestOfWindow_L17 fu (nI (s 2)) owned litIn (nI c) n = rec
    rw [if_neg (by rw [pz_c4, pz_le (by decide) (by omega)]; omega), x5_isLit L hk hc, pz_bind, dgF]
    try dsimp only
    rw [eI_of (n := s (96 + 60 * k + c)) (by omega)]
    rcases (show s (96 + 60 * k + c) = 0 ∨ s (96 + 60 * k + c) = 1 by omega) with g | g
    · rw [decide_eq_false (by omega), if_pos b_f, X5_digestOfWindow_J44, g, nI_1]; rfl
    · rw [decide_eq_true g, if_neg b_t, X5_digestOfWindow_J44, g, nI_1]; rfl
  · rw [X5_digestOfWindow_L17, if_pos (by decide +kernel)]
    rfl
theorem x5_digestOn {v : Int64} (hf : 5000 ≤ fu) (I : Iv s) (T : TR s kinds painOf payFor refused owned) (L : LR s litIn) (S : HR s shapes) (D : DR s readAt meant readSo) : f_X5_digestOn fu (nI (s 0)) (nI (s 1)) (nI (s 5)) (nI (s 2)) (nI (s 3)) (nI (s 4)) kinds painOf payFor refused owned litIn shapes readAt meant readSo v = some (dgF (fun k => eI (s (336 + k))) (3 * s 4) (hS (dgF (fun k => eI (s (30 + k))) (s 3) (rsF (gW s) (s 0) (s 1) (dgF (fun k => eI (s (6 + k))) (4 * s 2) v))) (eI (s 5)))) := by
  obtain ⟨i0, i1, i2, i3, i4, i5, it, io, il, is, ir⟩ := id I
  have d178 : ∀ v, X5_digestOn_L178 fu (nI (s 0)) (nI (s 1)) (nI (s 5)) (nI (s 2)) (nI (s 3)) (nI (s 4)) kinds painOf payFor refused owned litIn shapes readAt meant readSo fu v (nI 0) = some (dgF (fun k => eI (s (336 + k))) (3 * s 4) v) := fun v => by
    refine pz_up (fun n k => X5_digestOn_L178 fu (nI (s 0)) (nI (s 1)) (nI (s 5)) (nI (s 2)) (nI (s 3)) (nI (s 4)) kinds painOf payFor refused owned litIn shapes readAt meant readSo n (dgF (fun k => eI (s (336 + k))) (3 * k) v) (nI k)) (s 4) _ (fun n k hk => ?_) (fun n => ?_) fu 0 (by omega) (by omega)
    · obtain ⟨q1, q2, q3⟩ := D k hk
      obtain ⟨b1, b2, b3⟩ := ir k hk
      have hb := boxB_lt I b1
      rw [X5_digestOn_L178]
      generalize X5_digestOn_L178 fu (nI (s 0)) (nI (s 1)) (nI (s 5)) (nI (s 2)) (nI (s 3)) (nI (s 4)) kinds painOf payFor refused owned litIn shapes readAt meant readSo n = rec
      rw [if_neg (by rw [pz_le (by omega) (by omega)]; omega), pz_rd _ _ (by omega) (by omega), pz_let, pz_rd _ _ (by omega) (by omega), pz_let, pz_rd _ _ (by omega) (by omega), pz_let, q1, q2, q3, nI_1, show 3 * (k + 1) = 3 * k + 1 + 1 + 1 by omega, dgF, dgF, dgF]
      try dsimp only
      repeat rw [← Nat.add_assoc]
      rw [eI_of (n := s (336 + 3 * k)) (by omega), eI_of (n := s (336 + 3 * k + 1)) (by omega)]
      rfl
    · rw [X5_digestOn_L178, if_pos (by rw [pz_le (by omega) (by omega)]; omega)]
  have d133 : ∀ v, X5_digestOn_L133 fu (nI (s 0)) (nI (s 1)) (nI (s 5)) (nI (s 2)) (nI (s 3)) (nI (s 4)) kinds painOf payFor refused owned litIn shapes readAt meant readSo fu v (nI 0) = some (dgF (fun k => eI (s (336 + k))) (3 * s 4) (hS (dgF (fun k => eI (s (30 + k))) (s 3) v) (eI (s 5)))) := fun v => by
    refine pz_up (fun n k => X5_digestOn_L133 fu (nI (s 0)) (nI (s 1)) (nI (s 5)) (nI (s 2)) (nI (s 3)) (nI (s 4)) kinds painOf payFor refused owned litIn shapes readAt meant readSo n (dgF (fun k => eI (s (30 + k))) k v) (nI k)) (s 3) _ (fun n k hk => ?_) (fun n => ?_) fu 0 (by omega) (by omega)
    · have h9 := is k hk
      rw [X5_digestOn_L133]
      generalize X5_digestOn_L133 fu (nI (s 0)) (nI (s 1)) (nI (s 5)) (nI (s 2)) (nI (s 3)) (nI (s 4)) kinds painOf payFor refused owned litIn shapes readAt meant readSo n = rec
      rw [if_neg (by rw [pz_le (by omega) (by omega)]; omega), pz_rd _ _ (by omega) (by omega), pz_let, S k hk, nI_1, dgF]
      try dsimp only
      rw [eI_of (n := s (30 + k)) (by omega)]
      rfl
    · rw [X5_digestOn_L133, if_pos (by rw [pz_le (by omega) (by omega)]; omega), pz_let, eI_of (n := s 5) (by omega)]
      exact d178 _
  have d95 : ∀ (rec83 : Int64 → Int32 → Option Int64) y v, y < s 1 → X5_digestOn_L95 fu rec83 (nI (s 0)) (nI (s 1)) (nI (s 5)) (nI (s 2)) (nI (s 3)) (nI (s 4)) kinds painOf payFor refused owned litIn shapes readAt meant readSo (nI y) fu v (nI 0) = rec83 (rwF (gW s) y (s 0) v) (nI (y + 1)) := fun rec83 y v hy => by
    refine pz_up (fun n k => X5_digestOn_L95 fu rec83 (nI (s 0)) (nI (s 1)) (nI (s 5)) (nI (s 2)) (nI (s 3)) (nI (s 4)) kinds painOf payFor refused owned litIn shapes readAt meant readSo (nI y) n (rwF (gW s) y k v) (nI k)) (s 0) _ (fun n k hk => ?_) (fun n => ?_) fu 0 (by omega) (by omega)
    · rw [X5_digestOn_L95]
      generalize X5_digestOn_L95 fu rec83 (nI (s 0)) (nI (s 1)) (nI (s 5)) (nI (s 2)) (nI (s 3)) (nI (s 4)) kinds painOf payFor refused owned litIn shapes readAt meant readSo (nI y) n = rec
      rw [if_neg (by rw [pz_le (by omega) (by omega)]; omega), pz_c12, pk_mul, nI_add, x5_digestOfWindow hf I T L (by omega), pz_bind, nI_1]
      rfl
    · rw [X5_digestOn_L95, if_pos (by rw [pz_le (by omega) (by omega)]; omega), nI_1]
  have d83 : ∀ v, X5_digestOn_L83 fu (nI (s 0)) (nI (s 1)) (nI (s 5)) (nI (s 2)) (nI (s 3)) (nI (s 4)) kinds painOf payFor refused owned litIn shapes readAt meant readSo fu v (nI 0) = X5_digestOn_L133 fu (nI (s 0)) (nI (s 1)) (nI (s 5)) (nI (s 2)) (nI (s 3)) (nI (s 4)) kinds painOf payFor refused owned litIn shapes readAt meant readSo fu (rsF (gW s) (s 0) (s 1) v) (nI 0) := fun v => by
    refine pz_up (fun n k => X5_digestOn_L83 fu (nI (s 0)) (nI (s 1)) (nI (s 5)) (nI (s 2)) (nI (s 3)) (nI (s 4)) kinds painOf payFor refused owned litIn shapes readAt meant readSo n (rsF (gW s) (s 0) k v) (nI k)) (s 1) _ (fun n k hk => ?_) (fun n => ?_) fu 0 (by omega) (by omega)
    · have e := d95 (X5_digestOn_L83 fu (nI (s 0)) (nI (s 1)) (nI (s 5)) (nI (s 2)) (nI (s 3)) (nI (s 4)) kinds painOf payFor refused owned litIn shapes readAt meant readSo n) k (rsF (gW s) (s 0) k v) hk
      rw [X5_digestOn_L83, if_neg (by rw [pz_le (by omega) (by omega)]; omega)]
      exact e
    · rw [X5_digestOn_L83, if_pos (by rw [pz_le (by omega) (by omega)]; omega)]
      rfl
  rw [f_X5_digestOn]
  refine pz_up (fun n k => X5_digestOn_L5 fu (nI (s 0)) (nI (s 1)) (nI (s 5)) (nI (s 2)) (nI (s 3)) (nI (s 4)) kinds painOf payFor refused owned litIn shapes readAt meant readSo n (dgF (fun k => eI (s (6 + k))) (4 * k) v) (nI k)) (s 2) _ (fun n k hk => ?_) (fun n => ?_) fu 0 (by omega) (by omega)
  · obtain ⟨q1, q2, q3, q4, -⟩ := T k hk
    obtain ⟨b1, b2, b3, b4⟩ := it k hk
    rw [X5_digestOn_L5]
    generalize X5_digestOn_L5 fu (nI (s 0)) (nI (s 1)) (nI (s 5)) (nI (s 2)) (nI (s 3)) (nI (s 4)) kinds painOf payFor refused owned litIn shapes readAt meant readSo n = rec
    rw [if_neg (by rw [pz_le (by omega) (by omega)]; omega), pz_rd _ _ (by omega) (by omega), pz_let, pz_rd _ _ (by omega) (by omega), pz_let, pz_rd _ _ (by omega) (by omega), pz_let, pz_rd _ _ (by omega) (by omega), pz_let, q1, q2, q3, q4, nI_1, show 4 * (k + 1) = 4 * k + 1 + 1 + 1 + 1 by omega, dgF, dgF, dgF, dgF]
    try dsimp only
    repeat rw [← Nat.add_assoc]
    rw [eI_of (n := s (6 + 4 * k)) (by omega), eI_of (n := s (6 + 4 * k + 1)) (by omega), eI_of (n := s (6 + 4 * k + 2)) (by omega)]
    rfl
  · rw [X5_digestOn_L5, if_pos (by rw [pz_le (by omega) (by omega)]; omega)]
    exact (d83 _).trans (d133 _)
theorem q_digest {q_wall_wide : Int32} {q_wall_high : Int32} {q_wall_slackNow : Int32} {q_wall_tenants : Int32} {q_wall_letters : Int32} {q_wall_readings : Int32} {q_wall_kinds : Nat → Int32} {q_wall_painOf : Nat → Int32} {q_wall_payFor : Nat → Int32} {q_wall_refused : Nat → Int32} {q_wall_owned : Nat → Int64} {q_wall_litIn : Nat → Int64} {q_wall_shapes : Nat → Int32} {q_wall_readAt : Nat → Int32} {q_wall_meant : Nat → Int32} {q_wall_readSo : Nat → Int32} {u_st u_refused u_ones : Nat → Int32} {q_wereBad q_wereNo q_wereFull : Int32} {q_plan_length : Int32} {u_textSize : Int32} (hf : 5000 ≤ fu) (I : Iv s) (W : WR q_wall_wide q_wall_high q_wall_slackNow q_wall_tenants q_wall_letters q_wall_readings q_wall_kinds q_wall_painOf q_wall_payFor q_wall_refused q_wall_owned q_wall_litIn q_wall_shapes q_wall_readAt q_wall_meant q_wall_readSo s) (R : SR u_st s) (hp : q_plan_length = u_textSize) : f_X7_digest fu q_wall_wide q_wall_high q_wall_slackNow q_wall_tenants q_wall_letters q_wall_readings q_wall_kinds q_wall_painOf q_wall_payFor q_wall_refused q_wall_owned q_wall_litIn q_wall_shapes q_wall_readAt q_wall_meant q_wall_readSo q_plan_length = f_X8_digest fu u_textSize u_st ∧ ∃ v, f_X8_digest fu u_textSize u_st = some v := by
  obtain ⟨⟨rfl, rfl, rfl, rfl, rfl, rfl⟩, T, L, S, D⟩ := W
  subst hp
  obtain ⟨i0, i1, i2, i3, i4, i5, -⟩ := id I
  rw [x8_digest hf I R]
  refine ⟨?_, _, rfl⟩
  rw [f_X7_digest]
  have hv : ∀ k, k < 5 → f_X7_howMany fu (nI (s 0)) (nI (s 1)) (nI (s 2)) (nI (s 3)) (nI (s 4)) q_plan_length (nI k) = some (eI (s k)) := by
    intro k hk
    rw [f_X7_howMany]
    rcases (show k = 0 ∨ k = 1 ∨ k = 2 ∨ k = 3 ∨ k = 4 by omega) with e | e | e | e | e <;> subst e
    · rw [if_pos (show nI 0 = 0 from rfl), eI_of (by omega)]
    · rw [if_neg (by decide), if_pos (show nI 1 = 1 from rfl), eI_of (by omega)]
    · rw [if_neg (by decide), if_neg (by decide), if_pos (show nI 2 = 2 from rfl), eI_of (by omega)]
    · rw [if_neg (by decide), if_neg (by decide), if_neg (by decide), if_pos (show nI 3 = 3 from rfl), eI_of (by omega)]
    · rw [if_neg (by decide), if_neg (by decide), if_neg (by decide), if_neg (by decide), if_pos (show nI 4 = 4 from rfl), eI_of (by omega)]
  have hv5 : f_X7_howMany fu (nI (s 0)) (nI (s 1)) (nI (s 2)) (nI (s 3)) (nI (s 4)) q_plan_length (nI 5) = some q_plan_length := by
    rw [f_X7_howMany, if_neg (by decide), if_neg (by decide), if_neg (by decide), if_neg (by decide), if_neg (by decide), if_pos (show nI 5 = 5 from rfl)]
  have ha : ∀ k, k < 6 → f_X7_howMany fu (nI (s 0)) (nI (s 1)) (nI (s 2)) (nI (s 3)) (nI (s 4)) q_plan_length (nI k) = some (if k = 5 then q_plan_length else eI (s k)) := by
    intro k hk
    by_cases e : k = 5
    · rw [if_pos e, e]; exact hv5
    · rw [if_neg e]; exact hv k (by omega)
  refine pz_up (fun n k => X7_digest_L6 fu (nI (s 0)) (nI (s 1)) (nI (s 5)) (nI (s 2)) (nI (s 3)) (nI (s 4)) q_wall_kinds q_wall_painOf q_wall_payFor q_wall_refused q_wall_owned q_wall_litIn q_wall_shapes q_wall_readAt q_wall_meant q_wall_readSo q_plan_length n (dgF (fun k => if k = 5 then q_plan_length else eI (s k)) k 673) (nI k)) 6 _ (fun n k hk => ?_) (fun n => ?_) fu 0 (by omega) (by omega)
  · rw [X7_digest_L6]
    generalize X7_digest_L6 fu (nI (s 0)) (nI (s 1)) (nI (s 5)) (nI (s 2)) (nI (s 3)) (nI (s 4)) q_wall_kinds q_wall_painOf q_wall_payFor q_wall_refused q_wall_owned q_wall_litIn q_wall_shapes q_wall_readAt q_wall_meant q_wall_readSo q_plan_length n = rec
    rw [if_neg (by rw [pz_c5, pz_lt (by decide) (by omega)]; omega), ha k hk, pz_bind, pz_let, nI_1]
    rfl
  · rw [X7_digest_L6, if_pos (by decide +kernel), x5_digestOn hf I T L S D, pz_bind]
    rfl
end
