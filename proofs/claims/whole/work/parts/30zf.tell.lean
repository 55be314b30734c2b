/-! CALLS THAT CHANGE LITTLE: status, count, slack, refuses, unread -/
def un (s : Nat → Nat) (k x : Nat) : Nat → Nat := fun j => if j = k then x else s j
theorem un_eq {s : Nat → Nat} {j k x : Nat} (h : j = k) : un s k x j = x := by rw [un, if_pos h]
theorem un_ne {s : Nat → Nat} {j k x : Nat} (h : j < k ∨ k < j) : un s k x j = s j := by rw [un, if_neg (by omega)]
theorem SR_un {st : Nat → Int32} {s : Nat → Nat} {k x : Nat} {v : Int32} (R : SR st s) (hv : v = eI x) : SR (upd st k v) (un s k x) := by
  intro j hj
  rw [upd_at]
  by_cases h : j = k
  · rw [if_pos h, un_eq h, hv]
  · rw [if_neg h, un_ne (by omega), R j hj]
section
variable {fu : Nat} {s s2 : Nat → Nat} {st ones rf : Nat → Int32}
theorem TR_of {kinds painOf payFor refused : Nat → Int32} {owned : Nat → Int64} (I : Iv s) (T : TR s kinds painOf payFor refused owned) (h2 : s2 2 = s 2) (h3 : ∀ j, 6 ≤ j → j < 30 → s2 j = s j) (h4 : ∀ j, 36 ≤ j → j < 96 → s2 j = s j) : TR s2 kinds painOf payFor refused owned := by
  intro t ht
  rw [h2] at ht
  have i2 := I.2.2.1
  obtain ⟨k1, k2, k3, k4, k5⟩ := T t ht
  have e : OW s2 t = OW s t := mkN_cong (fun c hc => by rw [h4 (36 + c) (by omega) (by omega)])
  rw [h3 _ (by omega) (by omega), h3 _ (by omega) (by omega), h3 _ (by omega) (by omega), h3 _ (by omega) (by omega), e]
  exact ⟨k1, k2, k3, k4, k5⟩
theorem LR_of {litIn : Nat → Int64} (L : LR s litIn) (h : ∀ j, 96 ≤ j → j < 336 → s2 j = s j) : LR s2 litIn := by
  intro k hk
  rw [L k hk]
  exact congrArg lN (mkN_cong (fun c hc => by rw [h (96 + 60 * k + c) (by omega) (by omega)]))
theorem HR_of {shapes : Nat → Int32} (I : Iv s) (S : HR s shapes) (h3 : s2 3 = s 3) (h : ∀ j, 30 ≤ j → j < 36 → s2 j = s j) : HR s2 shapes := by
  intro k hk
  rw [h3] at hk
  have i3 := I.2.2.2.1
  rw [S k hk, h _ (by omega) (by omega)]
theorem DR_of {readAt meant readSo : Nat → Int32} (I : Iv s) (D : DR s readAt meant readSo) (h4 : s2 4 = s 4) (h : ∀ j, 336 ≤ j → j < 354 → s2 j = s j) : DR s2 readAt meant readSo := by
  intro r hr
  rw [h4] at hr
  have i4 := I.2.2.2.2.1
  rw [h _ (by omega) (by omega), h _ (by omega) (by omega), h _ (by omega) (by omega)]
  exact D r hr
theorem q_status {q_wall_wide : Int32} {q_wall_high : Int32} {q_wall_slackNow : Int32} {q_wall_tenants : Int32} {q_wall_letters : Int32} {q_wall_readings : Int32} {q_wall_kinds : Nat → Int32} {q_wall_painOf : Nat → Int32} {q_wall_payFor : Nat → Int32} {q_wall_refused : Nat → Int32} {q_wall_owned : Nat → Int64} {q_wall_litIn : Nat → Int64} {q_wall_shapes : Nat → Int32} {q_wall_readAt : Nat → Int32} {q_wall_meant : Nat → Int32} {q_wall_readSo : Nat → Int32} {u_st u_refused u_ones : Nat → Int32} {q_wereBad q_wereNo q_wereFull : Int32} (v1 : Int32) (hf : 5000 ≤ fu) (I : Iv s) (W : WR q_wall_wide q_wall_high q_wall_slackNow q_wall_tenants q_wall_letters q_wall_readings q_wall_kinds q_wall_painOf q_wall_payFor q_wall_refused q_wall_owned q_wall_litIn q_wall_shapes q_wall_readAt q_wall_meant q_wall_readSo s) (R : SR u_st s) (hS : SS u_refused q_wereBad q_wereNo q_wereFull) : ∃ r u, f_X7_status fu q_wereBad q_wereNo q_wereFull v1 = some r ∧ f_X8_status fu u_refused v1 = some u ∧ r.1 = u.1 ∧ SS u.2 r.2 q_wereNo q_wereFull := by
  rw [f_X7_status, f_X8_status, show f_X8_in fu v1 0 2 = _ from x8_in (lo := 0) (hi := 2) (by decide) (by decide) v1, pz_bind]
  by_cases h2 : vN v1 ≤ 2
  · have ev := vN_e (v := v1) (by omega)
    rw [decide_eq_true (show 0 ≤ vN v1 ∧ vN v1 ≤ 2 by omega), if_neg b_t]
    generalize vN v1 = k at *
    subst ev
    rw [pz_rd _ _ (by omega) (by omega)]
    rcases (show k = 0 ∨ k = 1 ∨ k = 2 by omega) with e | e | e
    · subst e
      rw [if_pos (show nI 0 = 0 from rfl)]
      exact ⟨_, _, rfl, rfl, hS.1.symm, hS⟩
    · subst e
      rw [if_neg (by decide), if_pos (show nI 1 = 1 from rfl)]
      exact ⟨_, _, rfl, rfl, hS.2.1.symm, hS⟩
    · subst e
      rw [if_neg (by decide), if_neg (by decide), if_pos (show nI 2 = 2 from rfl)]
      exact ⟨_, _, rfl, rfl, hS.2.2.symm, hS⟩
  · have n : ∀ k, k ≤ 2 → ¬ v1 = nI k := fun k hk e => by
      rw [e, vN_n (by omega)] at h2
      exact h2 hk
    rw [decide_eq_false (show ¬ (0 ≤ vN v1 ∧ vN v1 ≤ 2) by omega), if_pos b_f, t_bad, pz_bind, if_neg (show ¬ v1 = (0 : Int32) from n 0 (by omega)), if_neg (show ¬ v1 = (1 : Int32) from n 1 (by omega)), if_neg (show ¬ v1 = (2 : Int32) from n 2 (by omega))]
    exact ⟨_, _, rfl, rfl, rfl, SS_bad hS⟩
theorem q_count {q_wall_wide : Int32} {q_wall_high : Int32} {q_wall_slackNow : Int32} {q_wall_tenants : Int32} {q_wall_letters : Int32} {q_wall_readings : Int32} {q_wall_kinds : Nat → Int32} {q_wall_painOf : Nat → Int32} {q_wall_payFor : Nat → Int32} {q_wall_refused : Nat → Int32} {q_wall_owned : Nat → Int64} {q_wall_litIn : Nat → Int64} {q_wall_shapes : Nat → Int32} {q_wall_readAt : Nat → Int32} {q_wall_meant : Nat → Int32} {q_wall_readSo : Nat → Int32} {u_st u_refused u_ones : Nat → Int32} {q_wereBad q_wereNo q_wereFull : Int32} {q_plan_length : Int32} {u_textSize : Int32} (v1 : Int32) (hf : 5000 ≤ fu) (I : Iv s) (W : WR q_wall_wide q_wall_high q_wall_slackNow q_wall_tenants q_wall_letters q_wall_readings q_wall_kinds q_wall_painOf q_wall_payFor q_wall_refused q_wall_owned q_wall_litIn q_wall_shapes q_wall_readAt q_wall_meant q_wall_readSo s) (R : SR u_st s) (hS : SS u_refused q_wereBad q_wereNo q_wereFull) {n : Nat} (hn : n < 65535) (hp : q_plan_length = nI n) (ht : u_textSize = nI n) : ∃ r u, f_X7_count fu q_wereBad q_wereNo q_wereFull q_wall_wide q_wall_high q_wall_tenants q_wall_letters q_wall_readings q_plan_length v1 = some r ∧ f_X8_count fu u_textSize u_st u_refused v1 = some u ∧ r.1 = u.1 ∧ SS u.2 r.2.1 r.2.2.1 r.2.2.2 := by
  obtain ⟨⟨rfl, rfl, rfl, rfl, rfl, rfl⟩, T, L, S, D⟩ := W
  have hd := SR_hd I R
  obtain ⟨i0, i1, i2, i3, i4, i5, -⟩ := I
  rw [f_X7_count, f_X8_count, show f_X8_in fu v1 0 4 = _ from x8_in (lo := 0) (hi := 4) (by decide) (by decide) v1, pz_bind, f_X7_howMany, hp, ht]
  have ok : ∀ k, k < 65535 → f_X7_counted fu q_wereBad q_wereNo q_wereFull (nI k) = some (nI k, q_wereBad, q_wereNo, q_wereFull) := fun k hk => c_ok (Or.inl ⟨k, by omega, rfl⟩)
  by_cases h4 : vN v1 ≤ 4
  · have ev := vN_e (v := v1) (by omega)
    rw [decide_eq_true (show 0 ≤ vN v1 ∧ vN v1 ≤ 4 by omega), if_neg b_t]
    generalize vN v1 = k at *
    subst ev
    rw [pz_rd _ _ (by omega) (by omega)]
    rcases (show k = 0 ∨ k = 1 ∨ k = 2 ∨ k = 3 ∨ k = 4 by omega) with e | e | e | e | e
    · subst e
      rw [if_pos (show nI 0 = 0 from rfl), pz_bind, ok _ (by omega), pz_bind]
      exact ⟨_, _, rfl, rfl, hd.1.symm, hS⟩
    · subst e
      rw [if_neg (by decide), if_pos (show nI 1 = 1 from rfl), pz_bind, ok _ (by omega), pz_bind]
      exact ⟨_, _, rfl, rfl, hd.2.1.symm, hS⟩
    · subst e
      rw [if_neg (by decide), if_neg (by decide), if_pos (show nI 2 = 2 from rfl), pz_bind, ok _ (by omega), pz_bind]
      exact ⟨_, _, rfl, rfl, hd.2.2.1.symm, hS⟩
    · subst e
      rw [if_neg (by decide), if_neg (by decide), if_neg (by decide), if_pos (show nI 3 = 3 from rfl), pz_bind, ok _ (by omega), pz_bind]
      exact ⟨_, _, rfl, rfl, hd.2.2.2.1.symm, hS⟩
    · subst e
      rw [if_neg (by decide), if_neg (by decide), if_neg (by decide), if_neg (by decide), if_pos (show nI 4 = 4 from rfl), pz_bind, ok _ (by omega), pz_bind]
      exact ⟨_, _, rfl, rfl, hd.2.2.2.2.1.symm, hS⟩
  · have nn : ∀ k, k ≤ 4 → ¬ v1 = nI k := fun k hk e => by
      rw [e, vN_n (by omega)] at h4
      exact h4 hk
    rw [decide_eq_false (show ¬ (0 ≤ vN v1 ∧ vN v1 ≤ 4) by omega), if_pos b_f, if_neg (show ¬ v1 = (0 : Int32) from nn 0 (by omega)), if_neg (show ¬ v1 = (1 : Int32) from nn 1 (by omega)), if_neg (show ¬ v1 = (2 : Int32) from nn 2 (by omega)), if_neg (show ¬ v1 = (3 : Int32) from nn 3 (by omega)), if_neg (show ¬ v1 = (4 : Int32) from nn 4 (by omega))]
    by_cases h5 : v1 = 5
    · rw [if_pos h5, if_pos h5, pz_bind, ok n hn, pz_bind]
      exact ⟨_, _, rfl, rfl, rfl, hS⟩
    · rw [if_neg h5, if_neg h5, pz_bind, c_bad, pz_bind, t_bad, pz_bind]
      exact ⟨_, _, rfl, rfl, rfl, SS_bad hS⟩
theorem Iv_5 (I : Iv s) {x : Nat} (hx : x ≤ 3) : Iv (un s 5 x) := by
  obtain ⟨h0, h1, h2, h3, h4, h5, h6, h7, h8, h9, h10⟩ := I
  have e : ∀ j, j < 5 → un s 5 x j = s j := fun j hj => un_ne (by omega)
  have eb : ∀ c, boxB (un s 5 x) c = boxB s c := fun c => by unfold boxB; rw [e 0 (by omega), e 1 (by omega)]
  unfold Iv
  rw [e 0 (by omega), e 1 (by omega), e 2 (by omega), e 3 (by omega), e 4 (by omega)]
  refine ⟨h0, h1, h2, h3, h4, hx, fun t ht => ?_, fun c hc => ?_, fun k hk => ?_, fun k hk => ?_, fun r hr => ?_⟩
  · have := h6 t ht
    rw [un_ne (by omega), un_ne (by omega), un_ne (by omega), un_ne (by omega)]
    exact this
  · rw [un_ne (by omega)]; exact h7 c hc
  · rw [un_ne (by omega)]; exact h8 k hk
  · rw [un_ne (by omega)]; exact h9 k hk
  · rw [un_ne (by omega), un_ne (by omega), un_ne (by omega), eb]
    exact h10 r hr
theorem q_slack {q_wall_wide : Int32} {q_wall_high : Int32} {q_wall_slackNow : Int32} {q_wall_tenants : Int32} {q_wall_letters : Int32} {q_wall_readings : Int32} {q_wall_kinds : Nat → Int32} {q_wall_painOf : Nat → Int32} {q_wall_payFor : Nat → Int32} {q_wall_refused : Nat → Int32} {q_wall_owned : Nat → Int64} {q_wall_litIn : Nat → Int64} {q_wall_shapes : Nat → Int32} {q_wall_readAt : Nat → Int32} {q_wall_meant : Nat → Int32} {q_wall_readSo : Nat → Int32} {u_st u_refused u_ones : Nat → Int32} {q_wereBad q_wereNo q_wereFull : Int32} (v1 : Int32) (hf : 5000 ≤ fu) (I : Iv s) (W : WR q_wall_wide q_wall_high q_wall_slackNow q_wall_tenants q_wall_letters q_wall_readings q_wall_kinds q_wall_painOf q_wall_payFor q_wall_refused q_wall_owned q_wall_litIn q_wall_shapes q_wall_readAt q_wall_meant q_wall_readSo s) (R : SR u_st s) (hS : SS u_refused q_wereBad q_wereNo q_wereFull) : ∃ r u s2, f_X7_slack fu q_wereBad q_wereNo q_wereFull q_wall_slackNow v1 = some r ∧ f_X8_slack fu u_st u_refused v1 = some u ∧ r.1 = u.1 ∧ SS u.2.2 r.2.1 r.2.2.1 r.2.2.2.1 ∧ Iv s2 ∧ SR u.2.1 s2 ∧ WR q_wall_wide q_wall_high r.2.2.2.2 q_wall_tenants q_wall_letters q_wall_readings q_wall_kinds q_wall_painOf q_wall_payFor q_wall_refused q_wall_owned q_wall_litIn q_wall_shapes q_wall_readAt q_wall_meant q_wall_readSo s2 := by
  have W0 := W
  obtain ⟨⟨rfl, rfl, rfl, rfl, rfl, rfl⟩, T, L, S, D⟩ := W
  have hd := SR_hd I R
  have i5 := I.2.2.2.2.2.1
  rw [f_X7_slack, f_X8_slack, f_X5_setSlack, f_X8_putSlack, show f_X8_in fu v1 0 3 = _ from x8_in (lo := 0) (hi := 3) (by decide) (by decide) v1, pz_bind]
  by_cases h3 : vN v1 ≤ 3
  · have ev := vN_e (v := v1) (by omega)
    have n1 : ¬ v1 < 0 := by rw [ev]; exact nI_pos (by omega)
    have l1 : v1 ≤ 3 := by rw [ev, pz_c3, pz_le (by omega) (by decide)]; exact h3
    have ok : (∃ k, k < 2 ^ 31 ∧ nI (s 5) = nI k) ∨ nI (s 5) = -nI 1 := Or.inl ⟨s 5, by omega, rfl⟩
    rw [if_neg n1, if_pos l1, decide_eq_true (show 0 ≤ vN v1 ∧ vN v1 ≤ 3 from ⟨Nat.zero_le _, h3⟩), if_neg b_t, pz_bind, pz_bind]
    dsimp only
    rw [hd.2.2.2.2.2, c_ok ok, pz_bind, t_ok ok, pz_bind]
    refine ⟨_, _, un s 5 (vN v1), rfl, rfl, rfl, hS, Iv_5 I h3, SR_un R (by rw [eI_of (by omega)]; exact ev), ⟨⟨rfl, rfl, ev, rfl, rfl, rfl⟩, TR_of I T rfl (fun j _ _ => un_ne (by omega)) (fun j _ _ => un_ne (by omega)), LR_of L (fun j _ _ => un_ne (by omega)), HR_of I S rfl (fun j _ _ => un_ne (by omega)), DR_of I D rfl (fun j _ _ => un_ne (by omega))⟩⟩
  · rw [decide_eq_false (show ¬ (0 ≤ vN v1 ∧ vN v1 ≤ 3) from fun q => h3 q.2), if_pos b_f, pz_bind]
    by_cases n1 : v1 < 0
    · rw [if_pos n1, X5_setSlack_J9, pz_bind]
      dsimp only
      rw [c_bad, t_bad, pz_bind, pz_bind]
      exact ⟨_, _, s, rfl, rfl, rfl, SS_bad hS, I, R, W0⟩
    · have l1 : ¬ v1 ≤ 3 := by
        obtain ⟨q, hq, rfl⟩ := nI_of n1
        rw [vN_n hq] at h3
        rw [pz_c3, pz_le hq (by decide)]; exact h3
      rw [if_neg n1, if_neg l1, X5_setSlack_J9, pz_bind]
      dsimp only
      rw [c_bad, t_bad, pz_bind, pz_bind]
      exact ⟨_, _, s, rfl, rfl, rfl, SS_bad hS, I, R, W0⟩
theorem q_unread {q_wall_wide : Int32} {q_wall_high : Int32} {q_wall_slackNow : Int32} {q_wall_tenants : Int32} {q_wall_letters : Int32} {q_wall_readings : Int32} {q_wall_kinds : Nat → Int32} {q_wall_painOf : Nat → Int32} {q_wall_payFor : Nat → Int32} {q_wall_refused : Nat → Int32} {q_wall_owned : Nat → Int64} {q_wall_litIn : Nat → Int64} {q_wall_shapes : Nat → Int32} {q_wall_readAt : Nat → Int32} {q_wall_meant : Nat → Int32} {q_wall_readSo : Nat → Int32} {u_st u_refused u_ones : Nat → Int32} {q_wereBad q_wereNo q_wereFull : Int32}  (hf : 5000 ≤ fu) (I : Iv s) (W : WR q_wall_wide q_wall_high q_wall_slackNow q_wall_tenants q_wall_letters q_wall_readings q_wall_kinds q_wall_painOf q_wall_payFor q_wall_refused q_wall_owned q_wall_litIn q_wall_shapes q_wall_readAt q_wall_meant q_wall_readSo s) (R : SR u_st s) (hS : SS u_refused q_wereBad q_wereNo q_wereFull) : ∃ r u s2, f_X7_unread fu q_wall_readings = some r ∧ f_X8_unread fu u_st = some u ∧ r.1 = u.1 ∧ Iv s2 ∧ SR u.2 s2 ∧ WR q_wall_wide q_wall_high q_wall_slackNow q_wall_tenants q_wall_letters r.2 q_wall_kinds q_wall_painOf q_wall_payFor q_wall_refused q_wall_owned q_wall_litIn q_wall_shapes q_wall_readAt q_wall_meant q_wall_readSo s2 := by
  obtain ⟨⟨rfl, rfl, rfl, rfl, rfl, rfl⟩, T, L, S, D⟩ := W
  have hd := SR_hd I R
  rw [f_X7_unread, f_X8_unread]
  have I2 : Iv (un s 4 0) := by
    obtain ⟨h0, h1, h2, h3, h4, h5, h6, h7, h8, h9, h10⟩ := I
    refine ⟨h0, h1, h2, h3, Nat.zero_le _, h5, fun t ht => ?_, fun c hc => ?_, fun k hk => ?_, fun k hk => ?_, fun r hr => absurd hr (Nat.not_lt_zero r)⟩
    · have := h6 t ht
      rw [un_ne (by omega), un_ne (by omega), un_ne (by omega), un_ne (by omega)]
      exact this
    · rw [un_ne (by omega)]; exact h7 c hc
    · rw [un_ne (by omega)]; exact h8 k hk
    · rw [un_ne (by omega)]; exact h9 k hk
  exact ⟨_, _, un s 4 0, rfl, rfl, hd.2.2.2.2.1.symm, I2, SR_un R rfl, ⟨⟨rfl, rfl, rfl, rfl, rfl, rfl⟩, TR_of I T rfl (fun j _ _ => un_ne (by omega)) (fun j _ _ => un_ne (by omega)), LR_of L (fun j _ _ => un_ne (by omega)), HR_of I S rfl (fun j _ _ => un_ne (by omega)), fun r hr => absurd hr (Nat.not_lt_zero r)⟩⟩
theorem Iv_ref (I : Iv s) {t x : Nat} (ht : t < s 2) (hx : x = 65535 ∨ x < s 3) : Iv (un s (6 + 4 * t + 3) x) := by
  obtain ⟨h0, h1, h2, h3, h4, h5, h6, h7, h8, h9, h10⟩ := I
  have e : ∀ j, j < 6 → un s (6 + 4 * t + 3) x j = s j := fun j hj => un_ne (by omega)
  have eb : ∀ c, boxB (un s (6 + 4 * t + 3) x) c = boxB s c := fun c => by unfold boxB; rw [e 0 (by omega), e 1 (by omega)]
  unfold Iv
  rw [e 0 (by omega), e 1 (by omega), e 2 (by omega), e 3 (by omega), e 4 (by omega), e 5 (by omega)]
  refine ⟨h0, h1, h2, h3, h4, h5, fun t' ht' => ?_, fun c hc => ?_, fun k hk => ?_, fun k hk => ?_, fun r hr => ?_⟩
  · have := h6 t' ht'
    rw [un_ne (j := 6 + 4 * t') (by omega), un_ne (j := 6 + 4 * t' + 1) (by omega), un_ne (j := 6 + 4 * t' + 2) (by omega)]
    refine ⟨this.1, this.2.1, this.2.2.1, ?_⟩
    by_cases e2 : t' = t
    · rw [un_eq (by omega)]; exact hx
    · rw [un_ne (by omega)]; exact this.2.2.2
  · rw [un_ne (by omega)]; exact h7 c hc
  · rw [un_ne (by omega)]; exact h8 k hk
  · rw [un_ne (by omega)]; exact h9 k hk
  · rw [un_ne (by omega), un_ne (by omega), un_ne (by omega), eb]
    exact h10 r hr
theorem q_refuses {q_wall_wide : Int32} {q_wall_high : Int32} {q_wall_slackNow : Int32} {q_wall_tenants : Int32} {q_wall_letters : Int32} {q_wall_readings : Int32} {q_wall_kinds : Nat → Int32} {q_wall_painOf : Nat → Int32} {q_wall_payFor : Nat → Int32} {q_wall_refused : Nat → Int32} {q_wall_owned : Nat → Int64} {q_wall_litIn : Nat → Int64} {q_wall_shapes : Nat → Int32} {q_wall_readAt : Nat → Int32} {q_wall_meant : Nat → Int32} {q_wall_readSo : Nat → Int32} {u_st u_refused u_ones : Nat → Int32} {q_wereBad q_wereNo q_wereFull : Int32} (v1 : Int32) (v2 : Int32) (hf : 5000 ≤ fu) (I : Iv s) (W : WR q_wall_wide q_wall_high q_wall_slackNow q_wall_tenants q_wall_letters q_wall_readings q_wall_kinds q_wall_painOf q_wall_payFor q_wall_refused q_wall_owned q_wall_litIn q_wall_shapes q_wall_readAt q_wall_meant q_wall_readSo s) (R : SR u_st s) (hS : SS u_refused q_wereBad q_wereNo q_wereFull) : ∃ r u s2, f_X7_refuses fu q_wereBad q_wereNo q_wereFull q_wall_tenants q_wall_letters q_wall_refused v1 v2 = some r ∧ f_X8_refuses fu u_st u_refused v1 v2 = some u ∧ r.1 = u.1 ∧ SS u.2.2 r.2.1 r.2.2.1 r.2.2.2.1 ∧ Iv s2 ∧ SR u.2.1 s2 ∧ WR q_wall_wide q_wall_high q_wall_slackNow q_wall_tenants q_wall_letters q_wall_readings q_wall_kinds q_wall_painOf q_wall_payFor r.2.2.2.2 q_wall_owned q_wall_litIn q_wall_shapes q_wall_readAt q_wall_meant q_wall_readSo s2 := by
  have W0 := W
  obtain ⟨⟨rfl, rfl, rfl, rfl, rfl, rfl⟩, T, L, S, D⟩ := W
  have i2 := I.2.2.1
  have i3 := I.2.2.2.1
  rw [f_X7_refuses, f_X8_refuses, f_X5_setRefused, x5_isTenant i2, pz_bind, x8_isMan I R, pz_bind]
  have bad : ∃ r u s2, ((X5_setRefused_J21 fu (nI (s 2)) (nI (s 3)) q_wall_refused).bind fun t7 => (f_X7_countedApart fu q_wereBad q_wereNo q_wereFull t7.1).bind fun t10 => some (t10.1, t10.2.1, t10.2.2.1, t10.2.2.2, t7.2)) = some r ∧ X8_refuses_J21 fu u_st u_refused = some u ∧ r.1 = u.1 ∧ SS u.2.2 r.2.1 r.2.2.1 r.2.2.2.1 ∧ Iv s2 ∧ SR u.2.1 s2 ∧ WR (nI (s 0)) (nI (s 1)) (nI (s 5)) (nI (s 2)) (nI (s 3)) (nI (s 4)) q_wall_kinds q_wall_painOf q_wall_payFor r.2.2.2.2 q_wall_owned q_wall_litIn q_wall_shapes q_wall_readAt q_wall_meant q_wall_readSo s2 := by
    rw [X5_setRefused_J21, pz_bind]
    dsimp only
    rw [ca_bad, pz_bind, X8_refuses_J21, t_not, pz_bind]
    exact ⟨_, _, s, rfl, rfl, rfl, SS_bad hS, I, R, W0⟩
  by_cases ht : vN v1 < s 2
  · have ev := vN_e (v := v1) (by omega)
    rw [decide_eq_true ht, if_neg b_t, if_neg b_t]
    generalize vN v1 = t at *
    subst ev
    obtain ⟨k1, k2, k3, k4, k5⟩ := T t ht
    have hi := I.2.2.2.2.2.2.1 t ht
    have good : ∀ x v, (x = 65535 ∨ x < s 3) → v = eI x → ∃ r u s2, ((X5_setRefused_J24 fu (nI (s 2)) (nI (s 3)) q_wall_refused (nI t) v).bind fun t7 => (f_X7_countedApart fu q_wereBad q_wereNo q_wereFull t7.1).bind fun t10 => some (t10.1, t10.2.1, t10.2.2.1, t10.2.2.2, t7.2)) = some r ∧ X8_refuses_J28 fu u_st u_refused (nI t) v = some u ∧ r.1 = u.1 ∧ SS u.2.2 r.2.1 r.2.2.1 r.2.2.2.1 ∧ Iv s2 ∧ SR u.2.1 s2 ∧ WR (nI (s 0)) (nI (s 1)) (nI (s 5)) (nI (s 2)) (nI (s 3)) (nI (s 4)) q_wall_kinds q_wall_painOf q_wall_payFor r.2.2.2.2 q_wall_owned q_wall_litIn q_wall_shapes q_wall_readAt q_wall_meant q_wall_readSo s2 := by
      intro x v hx hv
      have e := R (6 + 4 * t + 3) (by omega)
      rw [X5_setRefused_J24, pz_rd _ _ (by omega) (by omega), pz_ck _ (by omega) (by omega), pz_cl (by omega), pz_bind]
      dsimp only
      rw [k4, ca_ok (ok_eI (by omega)), pz_bind, X8_refuses_J28, pz_let, pz_c4, pk_mul, pz_c6, nI_add, pz_c3, nI_add, pz_rd _ _ (by omega) (by omega), pz_ck _ (by omega) (by omega), pz_cl (by omega), e]
      refine ⟨_, _, un s (6 + 4 * t + 3) x, rfl, rfl, rfl, hS, Iv_ref I ht hx, SR_un R hv, ⟨⟨?_, ?_, ?_, ?_, ?_, ?_⟩, fun t' ht' => ?_, LR_of L (fun j _ _ => un_ne (by omega)), HR_of I S (un_ne (by omega)) (fun j _ _ => un_ne (by omega)), DR_of I D (un_ne (by omega)) (fun j _ _ => un_ne (by omega))⟩⟩
      · rw [un_ne (by omega)]
      · rw [un_ne (by omega)]
      · rw [un_ne (by omega)]
      · rw [un_ne (by omega)]
      · rw [un_ne (by omega)]
      · rw [un_ne (by omega)]
      · rw [un_ne (by omega)] at ht'
        obtain ⟨g1, g2, g3, g4, g5⟩ := T t' ht'
        have eo : OW (un s (6 + 4 * t + 3) x) t' = OW s t' := mkN_cong (fun c hc => by rw [un_ne (by omega)])
        rw [un_ne (j := 6 + 4 * t') (by omega), un_ne (j := 6 + 4 * t' + 1) (by omega), un_ne (j := 6 + 4 * t' + 2) (by omega), eo]
        refine ⟨g1, g2, g3, ?_, g5⟩
        show upd q_wall_refused t v t' = _
        by_cases e2 : t' = t
        · rw [un_eq (by omega), e2, pk_us, hv]
        · rw [un_ne (by omega), pk_un e2, g4]
    by_cases hm : v2 = -1
    · rw [if_pos hm, if_pos hm]
      exact good 65535 v2 (Or.inl rfl) hm
    · rw [if_neg hm, if_neg hm, x5_isLetter i3, pz_bind, x8_isLetter I R, pz_bind]
      by_cases hl : vN v2 < s 3
      · have ev2 := vN_e (v := v2) (by omega)
        rw [decide_eq_true hl, if_neg b_t, if_neg b_t]
        exact good (vN v2) v2 (Or.inr hl) (by rw [eI_of (by omega)]; exact ev2)
      · rw [decide_eq_false hl, if_pos b_f, if_pos b_f]
        exact bad
  · rw [decide_eq_false ht, if_pos b_f, if_pos b_f]
    exact bad
end
