/-! UNLIKE: the call -/
section
variable {fu : Nat}
theorem x7_mostUnlike {k d : Nat} (hk : 1 ≤ k ∧ k ≤ 5) (hd : 1 ≤ d ∧ d ≤ k) : f_X7_mostUnlike fu (nI k) (nI d) = some (nI (muU k d)) := by
  rw [f_X7_mostUnlike, muU]
  by_cases h1 : d = 1
  · rw [if_pos (by rw [h1]; rfl), if_pos h1, pz_c31, pz_31 (by omega), pz_c1, pz_shl _ (by omega)]
  · rw [if_neg (by rw [pz_c1, pz_eq (by omega) (by omega)]; exact h1), if_neg h1]
    by_cases h2 : d = 2
    · rw [if_pos (by rw [h2]; rfl), if_pos h2, pz_c1, pk_sub (by omega), pz_c31, pz_31 (by omega), pz_shl _ (by omega)]
    · rw [if_neg (by rw [pz_c2, pz_eq (by omega) (by omega)]; exact h2), if_neg h2]
      by_cases h5 : k = 5
      · rw [if_pos (by rw [h5]; rfl), if_pos h5]
        by_cases h3 : d = 3
        · rw [if_pos (by rw [h3]; rfl), if_pos h3]; rfl
        · rw [if_neg (by rw [pz_c3, pz_eq (by omega) (by omega)]; exact h3), if_neg h3, X7_mostUnlike_J34]; rfl
      · rw [if_neg (by rw [pz_c5, pz_eq (by omega) (by omega)]; exact h5), if_neg h5, X7_mostUnlike_J34]; rfl
theorem q_unlike {q_wall_wide : Int32} {q_wall_high : Int32} {q_wall_slackNow : Int32} {q_wall_tenants : Int32} {q_wall_letters : Int32} {q_wall_readings : Int32} {q_wall_kinds : Nat → Int32} {q_wall_painOf : Nat → Int32} {q_wall_payFor : Nat → Int32} {q_wall_refused : Nat → Int32} {q_wall_owned : Nat → Int64} {q_wall_litIn : Nat → Int64} {q_wall_shapes : Nat → Int32} {q_wall_readAt : Nat → Int32} {q_wall_meant : Nat → Int32} {q_wall_readSo : Nat → Int32} {u_st u_refused u_ones : Nat → Int32} {q_wereBad q_wereNo q_wereFull : Int32} {u_chosen : Nat → Int32} (v1 : Int32) (v2 : Int32) (hf : 5000 ≤ fu) (hS : SS u_refused q_wereBad q_wereNo q_wereFull) (hO : ∀ k, k < 4096 → u_ones k = nI (pc k)) : ∃ r u, f_X7_unlike fu q_wereBad q_wereNo q_wereFull v1 v2 = some r ∧ f_X8_unlike fu u_refused u_ones u_chosen v1 v2 = some u ∧ r.1 = u.1 ∧ SS u.2.1 r.2.1 r.2.2.1 r.2.2.2 := by
  rw [f_X7_unlike, f_X8_unlike, show f_X8_in fu v1 1 5 = _ from x8_in (lo := 1) (hi := 5) (by decide) (by decide) v1, pz_bind]
  have bad : ∃ r u, X7_unlike_J20 fu q_wereBad q_wereNo q_wereFull = some r ∧ X8_unlike_J18 fu u_refused u_ones u_chosen = some u ∧ r.1 = u.1 ∧ SS u.2.1 r.2.1 r.2.2.1 r.2.2.2 := by
    rw [X7_unlike_J20, c_bad, pz_bind, X8_unlike_J18, t_bad, pz_bind]
    exact ⟨_, _, rfl, rfl, rfl, SS_bad hS⟩
  rcases rngI v1 (lo := 1) (hi := 5) (by decide) (by decide) with ⟨a1, a2, -, a3⟩ | ⟨a1, a2⟩
  · rw [decide_eq_true a1, if_neg b_t, if_neg (show ¬ v1 < 1 from a2), if_neg (show ¬ 5 < v1 from a3)]
    have ev := vN_e (v := v1) (by omega)
    generalize vN v1 = k at *
    subst ev
    rw [show f_X8_in fu v2 1 (nI k) = _ from x8_in (lo := 1) (hi := k) (by decide) (by omega) v2, pz_bind]
    rcases rngI v2 (lo := 1) (hi := k) (by decide) (by omega) with ⟨b1, b2, b3, -⟩ | ⟨b1, b2⟩
    · rw [decide_eq_true b1, if_neg b_t, if_neg (show ¬ v2 < 1 from b2), if_pos b3]
      have ev2 := vN_e (v := v2) (by omega)
      generalize vN v2 = d at *
      subst ev2
      have hN : 1 <<< k ≤ 32 := by
        rw [Nat.shiftLeft_eq, Nat.one_mul]
        exact (Nat.pow_le_pow_right (by decide) (show k ≤ 5 by omega) : 2 ^ k ≤ 2 ^ 5)
      obtain ⟨ch2, e⟩ := un_sim (fu := fu) (rf := u_refused) (d := d) (N := 1 <<< k) (r := muU k d) hf hO (by omega) hN 1200 [] 0 0 fu u_chosen (stU_at a1 b1) (by omega) (fun j hj => absurd hj (Nat.not_lt_zero j)) trivial (Nat.le_refl _) (Nat.zero_le _) (by omega)
      rw [x7_mostUnlike a1 b1, pz_bind, pz_let, pz_c31, pz_31 (by omega), show (1 : Int32) <<< nI k = nI (1 <<< k) by rw [pz_c1, pz_shl _ (by omega)]]
      exact ⟨_, _, rfl, e, rfl, hS⟩
    · rw [decide_eq_false b1, if_pos b_f]
      rcases b2 with g | ⟨g1, g2, -⟩
      · rw [if_pos (show v2 < 1 from g)]
        exact bad
      · rw [if_neg (show ¬ v2 < 1 from g1), if_neg g2]
        exact bad
  · rw [decide_eq_false a1, if_pos b_f]
    rcases a2 with g | ⟨g1, -, g2⟩
    · rw [if_pos (show v1 < 1 from g)]
      exact bad
    · rw [if_neg (show ¬ v1 < 1 from g1), if_pos (show 5 < v1 from g2)]
      exact bad
end
