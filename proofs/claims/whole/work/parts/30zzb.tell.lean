/-! AN ITEM TOLD to the wall, and done by the reference -/
section
variable {fu : Nat} {s : Nat → Nat} {st ones rf : Nat → Int32}
variable {q_wall_wide q_wall_high q_wall_slackNow q_wall_tenants q_wall_letters q_wall_readings : Int32} {q_wall_kinds q_wall_painOf q_wall_payFor q_wall_refused : Nat → Int32} {q_wall_owned q_wall_litIn : Nat → Int64} {q_wall_shapes q_wall_readAt q_wall_meant q_wall_readSo : Nat → Int32}
theorem tell1 {w i : Nat} {num said : Nat → Int32} {V : Nat → Nat} (hf : 5000 ≤ fu) (I : Iv s) (W : WR q_wall_wide q_wall_high q_wall_slackNow q_wall_tenants q_wall_letters q_wall_readings q_wall_kinds q_wall_painOf q_wall_payFor q_wall_refused q_wall_owned q_wall_litIn q_wall_shapes q_wall_readAt q_wall_meant q_wall_readSo s) (R : SR st s) (hw : w < 6) (hi : i < 100) (hn : ∀ j, j < nof w → num (i * 3 + j) = nI (V j) ∧ said j = nI (V j) ∧ V j < 10000) : ∃ t u s2, f_X4_tellItem fu num q_wall_wide q_wall_high q_wall_slackNow q_wall_tenants q_wall_letters q_wall_readings q_wall_kinds q_wall_painOf q_wall_payFor q_wall_refused q_wall_owned q_wall_litIn q_wall_shapes (nI w) (nI (i * 3)) = some t ∧ f_X8_isDone fu st said (nI w) = some u ∧ ((NOv t.1 ∧ u.1 = 0) ∨ (OKv t.1 ∧ ¬ u.1 = 0 ∧ u.1 = 1)) ∧ Iv s2 ∧ SR u.2 s2 ∧ WR t.2.1 t.2.2.1 t.2.2.2.1 t.2.2.2.2.1 t.2.2.2.2.2.1 t.2.2.2.2.2.2.1 t.2.2.2.2.2.2.2.1 t.2.2.2.2.2.2.2.2.1 t.2.2.2.2.2.2.2.2.2.1 t.2.2.2.2.2.2.2.2.2.2.1 t.2.2.2.2.2.2.2.2.2.2.2.1 t.2.2.2.2.2.2.2.2.2.2.2.2.1 t.2.2.2.2.2.2.2.2.2.2.2.2.2 q_wall_readAt q_wall_meant q_wall_readSo s2 := by
  have i0 := I.1
  have i1 := I.2.1
  have n01 : ¬ (1 : Int32) = 0 := by decide
  rw [f_X4_tellItem, f_X8_isDone, pz_rd _ _ (by omega) (by omega), nI_1, pz_rd _ _ (by omega) (by omega), pz_c2, nI_add, pz_rd _ _ (by omega) (by omega), x8_isPlace I R, pz_bind]
  simp only [pz_let]
  rcases (show w = 0 ∨ w = 1 ∨ w = 2 ∨ w = 3 ∨ w = 4 ∨ w = 5 by omega) with rfl | rfl | rfl | rfl | rfl | rfl
  · obtain ⟨a1, a2, a3⟩ := hn 0 (by decide)
    obtain ⟨b1, b2, b3⟩ := hn 1 (by decide)
    obtain ⟨t, u, s2, et, eu, e1, hI, hR, hW⟩ := y_wall (nI (V 0)) (nI (V 1)) hf I W R
    rw [show num (i * 3) = nI (V 0) from a1, b1, a2, b2, if_pos (by decide), if_pos (by decide), et, eu, pz_bind, pz_bind]
    rcases e1 with ⟨g1, g2⟩ | ⟨g1, g2⟩
    · rw [if_pos g2]
      exact ⟨_, _, s2, rfl, rfl, Or.inl ⟨g1, rfl⟩, hI, hR, hW⟩
    · rw [if_neg g2]
      exact ⟨_, _, s2, rfl, rfl, Or.inr ⟨g1, n01, rfl⟩, hI, hR, hW⟩
  · obtain ⟨a1, a2, a3⟩ := hn 0 (by decide)
    obtain ⟨b1, b2, b3⟩ := hn 1 (by decide)
    obtain ⟨c1, c2, c3⟩ := hn 2 (by decide)
    obtain ⟨t, u, s2, et, eu, e1, hI, hR, hW⟩ := y_tenant (nI (V 0)) (nI (V 1)) (nI (V 2)) hf I W R
    rw [show num (i * 3) = nI (V 0) from a1, b1, c1, a2, b2, c2, if_neg (by decide), if_pos (by decide), if_neg (by decide), if_pos (by decide), et, eu, pz_bind, pz_bind]
    rcases e1 with ⟨g1, g2⟩ | ⟨g1, g2⟩
    · rw [if_pos g2]
      exact ⟨_, _, s2, rfl, rfl, Or.inl ⟨g1, rfl⟩, hI, hR, hW⟩
    · rw [if_neg g2]
      exact ⟨_, _, s2, rfl, rfl, Or.inr ⟨g1, n01, rfl⟩, hI, hR, hW⟩
  · obtain ⟨a1, a2, a3⟩ := hn 0 (by decide)
    obtain ⟨b1, b2, b3⟩ := hn 1 (by decide)
    obtain ⟨c1, c2, c3⟩ := hn 2 (by decide)
    have hq := W.1
    rw [show num (i * 3) = nI (V 0) from a1, b1, c1, a2, b2, c2, vN_n (by omega), vN_n (by omega)]
    simp only [if_neg (show ¬ nI 2 = 0 by decide), if_neg (show ¬ nI 2 = 1 by decide), eq_self, if_true]
    rw [show f_X5_isWindowAt fu q_wall_wide q_wall_high (nI (V 1)) (nI (V 2)) = some (bI (decide (V 1 < s 0 ∧ V 2 < s 1))) from by rw [hq.1, hq.2.1]; exact x5_isWindowAt (by omega) (by omega) (by omega) (by omega), pz_bind]
    by_cases g : V 1 < s 0 ∧ V 2 < s 1
    · obtain ⟨t, u, s2, et, eu, e1, hI, hR, hW⟩ := y_has (nI (12 * V 2 + V 1)) (nI (V 0)) hf I W R
      rw [decide_eq_true g, if_neg b_t, if_neg b_t, pz_c12, pk_mul, nI_add, et, eu, pz_bind, pz_bind]
      rcases e1 with ⟨g1, g2⟩ | ⟨g1, g2⟩
      · rw [if_pos g2, X8_isDone_J148]
        exact ⟨_, _, s2, rfl, rfl, Or.inl ⟨g1, rfl⟩, hI, hR, hW⟩
      · rw [if_neg g2]
        exact ⟨_, _, s2, rfl, rfl, Or.inr ⟨g1, n01, rfl⟩, hI, hR, hW⟩
    · rw [decide_eq_false g, if_pos b_f, if_pos b_f, X8_isDone_J148]
      exact ⟨_, _, s, rfl, rfl, Or.inl ⟨Or.inl rfl, rfl⟩, I, R, W⟩
  · obtain ⟨a1, a2, a3⟩ := hn 0 (by decide)
    obtain ⟨t, u, s2, et, eu, e1, hI, hR, hW⟩ := y_letter (nI (V 0)) hf I W R
    rw [show num (i * 3) = nI (V 0) from a1, a2, if_neg (by decide), if_neg (by decide), if_neg (by decide), if_pos (by decide), if_neg (by decide), if_neg (by decide), if_neg (by decide), if_pos (by decide), et, eu, pz_bind, pz_bind]
    rcases e1 with ⟨g1, g2⟩ | ⟨g1, g2⟩
    · rw [if_pos g2]
      exact ⟨_, _, s2, rfl, rfl, Or.inl ⟨g1, rfl⟩, hI, hR, hW⟩
    · rw [if_neg g2]
      exact ⟨_, _, s2, rfl, rfl, Or.inr ⟨g1, n01, rfl⟩, hI, hR, hW⟩
  · obtain ⟨a1, a2, a3⟩ := hn 0 (by decide)
    obtain ⟨b1, b2, b3⟩ := hn 1 (by decide)
    obtain ⟨c1, c2, c3⟩ := hn 2 (by decide)
    have hq := W.1
    rw [show num (i * 3) = nI (V 0) from a1, b1, c1, a2, b2, c2, vN_n (by omega), vN_n (by omega)]
    simp only [if_neg (show ¬ nI 4 = 0 by decide), if_neg (show ¬ nI 4 = 1 by decide), if_neg (show ¬ nI 4 = nI 2 by decide), if_neg (show ¬ nI 4 = 3 by decide), if_pos (show nI 4 = 4 from rfl)]
    rw [show f_X5_isWindowAt fu q_wall_wide q_wall_high (nI (V 1)) (nI (V 2)) = some (bI (decide (V 1 < s 0 ∧ V 2 < s 1))) from by rw [hq.1, hq.2.1]; exact x5_isWindowAt (by omega) (by omega) (by omega) (by omega), pz_bind]
    by_cases g : V 1 < s 0 ∧ V 2 < s 1
    · obtain ⟨t, u, s2, et, eu, e1, hI, hR, hW⟩ := y_lit (nI (V 0)) (nI (12 * V 2 + V 1)) hf I W R
      rw [decide_eq_true g, if_neg b_t, if_neg b_t, pz_c12, pk_mul, nI_add, et, eu, pz_bind, pz_bind]
      rcases e1 with ⟨g1, g2⟩ | ⟨g1, g2⟩
      · rw [if_pos g2, X8_isDone_J192]
        exact ⟨_, _, s2, rfl, rfl, Or.inl ⟨g1, rfl⟩, hI, hR, hW⟩
      · rw [if_neg g2]
        exact ⟨_, _, s2, rfl, rfl, Or.inr ⟨g1, n01, rfl⟩, hI, hR, hW⟩
    · rw [decide_eq_false g, if_pos b_f, if_pos b_f, X8_isDone_J192]
      exact ⟨_, _, s, rfl, rfl, Or.inl ⟨Or.inl rfl, rfl⟩, I, R, W⟩
  · obtain ⟨a1, a2, a3⟩ := hn 0 (by decide)
    obtain ⟨t, u, s2, et, eu, e1, hI, hR, hW⟩ := y_slack (nI (V 0)) hf I W R
    rw [show num (i * 3) = nI (V 0) from a1, a2, if_neg (by decide), if_neg (by decide), if_neg (by decide), if_neg (by decide), if_neg (by decide), if_pos (by decide), if_neg (by decide), if_neg (by decide), if_neg (by decide), if_neg (by decide), if_neg (by decide), et, eu, pz_bind, pz_bind]
    rcases e1 with ⟨g1, g2⟩ | ⟨g1, g2⟩
    · rw [if_pos g2]
      exact ⟨_, _, s2, rfl, rfl, Or.inl ⟨g1, rfl⟩, hI, hR, hW⟩
    · rw [if_neg g2]
      exact ⟨_, _, s2, rfl, rfl, Or.inr ⟨g1, n01, rfl⟩, hI, hR, hW⟩
end
