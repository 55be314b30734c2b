/-! CALLS THAT ADD: tenant, reading -/
section
variable {fu : Nat} {s : Nat → Nat} {st ones rf : Nat → Int32}
def tnS (s : Nat → Nat) (a b c : Nat) : Nat → Nat := un (un (un (un (un s (6 + 4 * s 2) a) (6 + 4 * s 2 + 1) b) (6 + 4 * s 2 + 2) c) (6 + 4 * s 2 + 3) 65535) 2 (s 2 + 1)
theorem tnS_at {a b c : Nat} : tnS s a b c 2 = s 2 + 1 ∧ tnS s a b c (6 + 4 * s 2) = a ∧ tnS s a b c (6 + 4 * s 2 + 1) = b ∧ tnS s a b c (6 + 4 * s 2 + 2) = c ∧ tnS s a b c (6 + 4 * s 2 + 3) = 65535 ∧ ∀ j, (j < 2 ∨ 2 < j) → (j < 6 + 4 * s 2 ∨ 6 + 4 * s 2 + 3 < j) → tnS s a b c j = s j := by
  unfold tnS
  refine ⟨un_eq rfl, ?_, ?_, ?_, ?_, fun j h1 h2 => ?_⟩
  · rw [un_ne (by omega), un_ne (by omega), un_ne (by omega), un_ne (by omega), un_eq rfl]
  · rw [un_ne (by omega), un_ne (by omega), un_ne (by omega), un_eq rfl]
  · rw [un_ne (by omega), un_ne (by omega), un_eq rfl]
  · rw [un_ne (by omega), un_eq rfl]
  · rw [un_ne (by omega), un_ne (by omega), un_ne (by omega), un_ne (by omega), un_ne (by omega)]
theorem Iv_tn (I : Iv s) {a b c : Nat} (h6' : s 2 < 6) (ha : a ≤ 5) (hb : b ≤ 9) (hc : c ≤ 99) : Iv (tnS s a b c) := by
  obtain ⟨h0, h1, h2, h3, h4, h5, h6, h7, h8, h9, h10⟩ := I
  obtain ⟨e2, ea, ebb, ec, er, e⟩ := tnS_at (s := s) (a := a) (b := b) (c := c)
  generalize tnS s a b c = z at *
  have eb : ∀ d, boxB z d = boxB s d := fun d => by unfold boxB; rw [e 0 (by omega) (by omega), e 1 (by omega) (by omega)]
  unfold Iv
  rw [e 0 (by omega) (by omega), e 1 (by omega) (by omega), e2, e 3 (by omega) (by omega), e 4 (by omega) (by omega), e 5 (by omega) (by omega)]
  refine ⟨h0, h1, by omega, h3, h4, h5, fun t ht => ?_, fun d hd => ?_, fun k hk => ?_, fun k hk => ?_, fun r hr => ?_⟩
  · rcases Nat.lt_or_ge t (s 2) with g | g
    · rw [e _ (by omega) (by omega), e _ (by omega) (by omega), e _ (by omega) (by omega), e _ (by omega) (by omega)]
      exact h6 t g
    · obtain rfl : t = s 2 := by omega
      rw [ea, ebb, ec, er]
      exact ⟨ha, hb, hc, Or.inl rfl⟩
  · have := h7 d hd
    rw [e _ (by omega) (by omega)]
    omega
  · rw [e _ (by omega) (by omega)]; exact h8 k hk
  · rw [e _ (by omega) (by omega)]; exact h9 k hk
  · rw [e _ (by omega) (by omega), e _ (by omega) (by omega), e _ (by omega) (by omega), eb]
    exact h10 r hr
theorem x8_putMan {a b c : Nat} (I : Iv s) (R : SR st s) (ha : a ≤ 5) (hb : b ≤ 9) (hc : c ≤ 99) : f_X8_putMan fu st (nI a) (nI b) (nI c) = if s 2 = 6 then some (-4, st) else some (nI (s 2), upd (upd (upd (upd (upd st (6 + 4 * s 2) (nI a)) (6 + 4 * s 2 + 1) (nI b)) (6 + 4 * s 2 + 2) (nI c)) (6 + 4 * s 2 + 3) (-1)) 2 (nI (s 2 + 1))) := by
  have hd := SR_hd I R
  have i2 := I.2.2.1
  rw [f_X8_putMan, show f_X8_in fu (nI a) 0 5 = _ from x8_in (lo := 0) (hi := 5) (by decide) (by decide) _, pz_bind, vN_n (by omega), decide_eq_true (show 0 ≤ a ∧ a ≤ 5 by omega), if_neg b_t, show f_X8_in fu (nI b) 0 9 = _ from x8_in (lo := 0) (hi := 9) (by decide) (by decide) _, pz_bind, vN_n (by omega), decide_eq_true (show 0 ≤ b ∧ b ≤ 9 by omega), if_neg b_t, show f_X8_in fu (nI c) 0 99 = _ from x8_in (lo := 0) (hi := 99) (by decide) (by decide) _, pz_bind, vN_n (by omega), decide_eq_true (show 0 ≤ c ∧ c ≤ 99 by omega), if_neg b_t, hd.2.2.1]
  by_cases g : s 2 = 6
  · rw [if_pos (by rw [g]; rfl), if_pos g]
  · have e1 : nI (6 + 4 * s 2) + 1 = nI (6 + 4 * s 2 + 1) := nI_1 _
    have e2 : nI (6 + 4 * s 2) + 2 = nI (6 + 4 * s 2 + 2) := by rw [pz_c2, nI_add]
    have e3 : nI (6 + 4 * s 2) + 3 = nI (6 + 4 * s 2 + 3) := by rw [pz_c3, nI_add]
    have e4 : upd (upd (upd (upd st (6 + 4 * s 2) (nI a)) (6 + 4 * s 2 + 1) (nI b)) (6 + 4 * s 2 + 2) (nI c)) (6 + 4 * s 2 + 3) (-1) 2 = nI (s 2) := by
      rw [pk_un (by omega), pk_un (by omega), pk_un (by omega), pk_un (by omega), hd.2.2.1]
    rw [if_neg (by rw [pz_c6, pz_eq (by omega) (by omega)]; exact g), if_neg g, pz_let, pz_c4, pk_mul, pz_c6, nI_add, e1, e2, e3, pz_ck _ (by omega) (by omega), pz_ck _ (by omega) (by omega), pz_ck _ (by omega) (by omega), pz_ck _ (by omega) (by omega), pz_cl (by omega), pz_cl (by omega), pz_cl (by omega), pz_cl (by omega), e4, nI_1, pk_us, pz_c1, pk_sub (by omega), Nat.add_sub_cancel]
theorem OW_none (I : Iv s) {t : Nat} (ht : s 2 ≤ t) (h6 : t < 65535) : OW s t = 0 := by
  symm
  apply mkN_eq (by decide)
  intro i hi
  have h := I.2.2.2.2.2.2.2.1 i hi
  rw [Nat.zero_testBit, decide_eq_false (by omega)]
theorem q_tenant {q_wall_wide : Int32} {q_wall_high : Int32} {q_wall_slackNow : Int32} {q_wall_tenants : Int32} {q_wall_letters : Int32} {q_wall_readings : Int32} {q_wall_kinds : Nat → Int32} {q_wall_painOf : Nat → Int32} {q_wall_payFor : Nat → Int32} {q_wall_refused : Nat → Int32} {q_wall_owned : Nat → Int64} {q_wall_litIn : Nat → Int64} {q_wall_shapes : Nat → Int32} {q_wall_readAt : Nat → Int32} {q_wall_meant : Nat → Int32} {q_wall_readSo : Nat → Int32} {u_st u_refused u_ones : Nat → Int32} {q_wereBad q_wereNo q_wereFull : Int32} (v1 : Int32) (v2 : Int32) (v3 : Int32) (hf : 5000 ≤ fu) (I : Iv s) (W : WR q_wall_wide q_wall_high q_wall_slackNow q_wall_tenants q_wall_letters q_wall_readings q_wall_kinds q_wall_painOf q_wall_payFor q_wall_refused q_wall_owned q_wall_litIn q_wall_shapes q_wall_readAt q_wall_meant q_wall_readSo s) (R : SR u_st s) (hS : SS u_refused q_wereBad q_wereNo q_wereFull) : ∃ r u s2, f_X7_tenant fu q_wereBad q_wereNo q_wereFull q_wall_tenants q_wall_kinds q_wall_painOf q_wall_payFor q_wall_refused q_wall_owned v1 v2 v3 = some r ∧ f_X8_tenant fu u_st u_refused v1 v2 v3 = some u ∧ r.1 = u.1 ∧ SS u.2.2 r.2.1 r.2.2.1 r.2.2.2.1 ∧ Iv s2 ∧ SR u.2.1 s2 ∧ WR q_wall_wide q_wall_high q_wall_slackNow r.2.2.2.2.1 q_wall_letters q_wall_readings r.2.2.2.2.2.1 r.2.2.2.2.2.2.1 r.2.2.2.2.2.2.2.1 r.2.2.2.2.2.2.2.2.1 r.2.2.2.2.2.2.2.2.2 q_wall_litIn q_wall_shapes q_wall_readAt q_wall_meant q_wall_readSo s2 := by
  have W0 := W
  obtain ⟨⟨rfl, rfl, rfl, rfl, rfl, rfl⟩, T, L, S, D⟩ := W
  have i2 := I.2.2.1
  rw [f_X7_tenant, f_X8_tenant]
  have bad : ∀ x y, x = some (-2, nI (s 2), q_wall_kinds, q_wall_painOf, q_wall_payFor, q_wall_refused, q_wall_owned) → y = some (-2, u_st) → ∃ r u s2, (Option.bind x fun t8 => (f_X7_counted fu q_wereBad q_wereNo q_wereFull t8.1).bind fun t11 => some (t11.1, t11.2.1, t11.2.2.1, t11.2.2.2, t8.2.1, t8.2.2.1, t8.2.2.2.1, t8.2.2.2.2.1, t8.2.2.2.2.2.1, t8.2.2.2.2.2.2)) = some r ∧ (Option.bind y fun t5 => (f_X8_told fu u_refused t5.1).bind fun t8 => some (t8.1, t5.2, t8.2)) = some u ∧ r.1 = u.1 ∧ SS u.2.2 r.2.1 r.2.2.1 r.2.2.2.1 ∧ Iv s2 ∧ SR u.2.1 s2 ∧ WR (nI (s 0)) (nI (s 1)) (nI (s 5)) r.2.2.2.2.1 (nI (s 3)) (nI (s 4)) r.2.2.2.2.2.1 r.2.2.2.2.2.2.1 r.2.2.2.2.2.2.2.1 r.2.2.2.2.2.2.2.2.1 r.2.2.2.2.2.2.2.2.2 q_wall_litIn q_wall_shapes q_wall_readAt q_wall_meant q_wall_readSo s2 := by
    intro x y hx hy
    rw [hx, hy, pz_bind, pz_bind]
    dsimp only
    rw [c_bad, pz_bind, t_bad, pz_bind]
    exact ⟨_, _, s, rfl, rfl, rfl, SS_bad hS, I, R, W0⟩
  have in1 := show f_X8_in fu v1 0 5 = _ from x8_in (lo := 0) (hi := 5) (by decide) (by decide) v1
  have in2 := show f_X8_in fu v2 0 9 = _ from x8_in (lo := 0) (hi := 9) (by decide) (by decide) v2
  have in3 := show f_X8_in fu v3 0 99 = _ from x8_in (lo := 0) (hi := 99) (by decide) (by decide) v3
  rcases rngI v1 (lo := 0) (hi := 5) (by decide) (by decide) with ⟨a1, a2, -, a3⟩ | ⟨a1, a2⟩
  · rcases rngI v2 (lo := 0) (hi := 9) (by decide) (by decide) with ⟨b1, b2, -, b3⟩ | ⟨b1, b2⟩
    · rcases rngI v3 (lo := 0) (hi := 99) (by decide) (by decide) with ⟨c1, c2, c3, -⟩ | ⟨c1, c2⟩
      · have ev := vN_e (v := v1) (by omega)
        have ev2 := vN_e (v := v2) (by omega)
        have ev3 := vN_e (v := v3) (by omega)
        rw [f_X5_addTenant, if_neg (show ¬ v1 < 0 from a2), if_neg (show ¬ 5 < v1 from a3), if_neg (show ¬ v2 < 0 from b2), if_neg (show ¬ 9 < v2 from b3), if_neg (show ¬ v3 < 0 from c2), if_pos (show v3 ≤ 99 from c3)]
        generalize vN v1 = a at *
        generalize vN v2 = b at *
        generalize vN v3 = c at *
        subst ev
        subst ev2
        subst ev3
        rw [x8_putMan I R a1.2 b1.2 c1.2]
        by_cases g : s 2 = 6
        · rw [if_neg (by rw [pz_c6, pz_lt (by omega) (by omega)]; omega), if_pos g, pz_bind, pz_bind]
          dsimp only
          rw [c_full, pz_bind, t_full, pz_bind]
          exact ⟨_, _, s, rfl, rfl, rfl, SS_full hS, I, R, W0⟩
        · have ok : (∃ k, k < 2 ^ 31 ∧ nI (s 2) = nI k) ∨ nI (s 2) = -nI 1 := Or.inl ⟨s 2, by omega, rfl⟩
          have em : nI (s 2 + 1) - 1 = nI (s 2) := by rw [pz_c1, pk_sub (by omega), Nat.add_sub_cancel]
          rw [if_pos (by rw [pz_c6, pz_lt (by omega) (by omega)]; omega), if_neg g, pz_ck _ (by omega) (by omega), pz_ck _ (by omega) (by omega), pz_ck _ (by omega) (by omega), pz_ck _ (by omega) (by omega), pz_ck _ (by omega) (by omega), pz_cl (by omega), nI_1, em, pz_bind, pz_bind]
          dsimp only
          rw [c_ok ok, pz_bind, t_ok ok, pz_bind]
          obtain ⟨e2, ea, ebb, ec, er, e⟩ := tnS_at (s := s) (a := a) (b := b) (c := c)
          have hI := Iv_tn I (by omega) a1.2 b1.2 c1.2
          have hR : SR (upd (upd (upd (upd (upd u_st (6 + 4 * s 2) (nI a)) (6 + 4 * s 2 + 1) (nI b)) (6 + 4 * s 2 + 2) (nI c)) (6 + 4 * s 2 + 3) (-1)) 2 (nI (s 2 + 1))) (tnS s a b c) := SR_un (SR_un (SR_un (SR_un (SR_un R (by rw [eI_of (by omega)])) (by rw [eI_of (by omega)])) (by rw [eI_of (by omega)])) rfl) (by rw [eI_of (by omega)])
          have hT : TR (tnS s a b c) (upd q_wall_kinds (s 2) (nI a)) (upd q_wall_painOf (s 2) (nI b)) (upd q_wall_payFor (s 2) (nI c)) (upd q_wall_refused (s 2) (-1)) (vp_updL q_wall_owned (s 2) 0) := by
            intro t ht
            rw [e2] at ht
            have eo : OW (tnS s a b c) t = OW s t := mkN_cong (fun d hd => by rw [e _ (by omega) (by omega)])
            rw [eo]
            rcases Nat.lt_or_ge t (s 2) with q | q
            · obtain ⟨g1, g2, g3, g4, g5⟩ := T t q
              rw [pk_un (by omega), pk_un (by omega), pk_un (by omega), pk_un (by omega), pk_uLn (by omega), e _ (by omega) (by omega), e _ (by omega) (by omega), e _ (by omega) (by omega), e _ (by omega) (by omega)]
              exact ⟨g1, g2, g3, g4, g5⟩
            · obtain rfl : t = s 2 := by omega
              rw [pk_us, pk_us, pk_us, pk_us, pk_uLs, ea, ebb, ec, er, OW_none I (Nat.le_refl _) (by omega)]
              exact ⟨rfl, rfl, rfl, rfl, rfl⟩
          refine ⟨_, _, tnS s a b c, rfl, rfl, rfl, hS, hI, hR, ⟨⟨?_, ?_, ?_, ?_, ?_, ?_⟩, hT, LR_of L (fun j _ _ => e j (by omega) (by omega)), HR_of I S (e 3 (by omega) (by omega)) (fun j _ _ => e j (by omega) (by omega)), DR_of I D (e 4 (by omega) (by omega)) (fun j _ _ => e j (by omega) (by omega))⟩⟩
          · rw [e _ (by omega) (by omega)]
          · rw [e _ (by omega) (by omega)]
          · rw [e _ (by omega) (by omega)]
          · rw [e2]
          · rw [e _ (by omega) (by omega)]
          · rw [e _ (by omega) (by omega)]
      · refine bad _ _ ?_ ?_
        · rw [f_X5_addTenant, if_neg (show ¬ v1 < 0 from a2), if_neg (show ¬ 5 < v1 from a3), if_neg (show ¬ v2 < 0 from b2), if_neg (show ¬ 9 < v2 from b3)]
          rcases c2 with g | ⟨g1, g2, -⟩
          · rw [if_pos (show v3 < 0 from g), X5_addTenant_J29]
          · rw [if_neg (show ¬ v3 < 0 from g1), if_neg (show ¬ v3 ≤ 99 from g2), X5_addTenant_J29]
        · rw [f_X8_putMan, in1, pz_bind, decide_eq_true a1, if_neg b_t, in2, pz_bind, decide_eq_true b1, if_neg b_t, in3, pz_bind, decide_eq_false c1, if_pos b_f, X8_putMan_J29]
    · refine bad _ _ ?_ ?_
      · rw [f_X5_addTenant, if_neg (show ¬ v1 < 0 from a2), if_neg (show ¬ 5 < v1 from a3)]
        rcases b2 with g | ⟨g1, -, g2⟩
        · rw [if_pos (show v2 < 0 from g), X5_addTenant_J29]
        · rw [if_neg (show ¬ v2 < 0 from g1), if_pos (show 9 < v2 from g2), X5_addTenant_J29]
      · rw [f_X8_putMan, in1, pz_bind, decide_eq_true a1, if_neg b_t, in2, pz_bind, decide_eq_false b1, if_pos b_f, X8_putMan_J29]
  · refine bad _ _ ?_ ?_
    · rw [f_X5_addTenant]
      rcases a2 with g | ⟨g1, -, g2⟩
      · rw [if_pos (show v1 < 0 from g), X5_addTenant_J29]
      · rw [if_neg (show ¬ v1 < 0 from g1), if_pos (show 5 < v1 from g2), X5_addTenant_J29]
    · rw [f_X8_putMan, in1, pz_bind, decide_eq_false a1, if_pos b_f, X8_putMan_J29]
def rnS (s : Nat → Nat) (a b c : Nat) : Nat → Nat := un (un (un (un s (336 + 3 * s 4) a) (336 + 3 * s 4 + 1) b) (336 + 3 * s 4 + 2) c) 4 (s 4 + 1)
theorem rnS_at {a b c : Nat} : rnS s a b c 4 = s 4 + 1 ∧ rnS s a b c (336 + 3 * s 4) = a ∧ rnS s a b c (336 + 3 * s 4 + 1) = b ∧ rnS s a b c (336 + 3 * s 4 + 2) = c ∧ ∀ j, (j < 4 ∨ 4 < j) → (j < 336 + 3 * s 4 ∨ 336 + 3 * s 4 + 2 < j) → rnS s a b c j = s j := by
  unfold rnS
  refine ⟨un_eq rfl, ?_, ?_, ?_, fun j h1 h2 => ?_⟩
  · rw [un_ne (by omega), un_ne (by omega), un_ne (by omega), un_eq rfl]
  · rw [un_ne (by omega), un_ne (by omega), un_eq rfl]
  · rw [un_ne (by omega), un_eq rfl]
  · rw [un_ne (by omega), un_ne (by omega), un_ne (by omega), un_ne (by omega)]
theorem Iv_rn (I : Iv s) {a b c : Nat} (h6' : s 4 < 6) (ha : boxB s a = true) (hb : b < s 3) (hc : c = 65535 ∨ c < s 3) : Iv (rnS s a b c) := by
  obtain ⟨h0, h1, h2, h3, h4, h5, h6, h7, h8, h9, h10⟩ := I
  obtain ⟨e4, ea, ebb, ec, e⟩ := rnS_at (s := s) (a := a) (b := b) (c := c)
  generalize rnS s a b c = z at *
  have eb : ∀ d, boxB z d = boxB s d := fun d => by unfold boxB; rw [e 0 (by omega) (by omega), e 1 (by omega) (by omega)]
  unfold Iv
  rw [e 0 (by omega) (by omega), e 1 (by omega) (by omega), e 2 (by omega) (by omega), e 3 (by omega) (by omega), e4, e 5 (by omega) (by omega)]
  refine ⟨h0, h1, h2, h3, by omega, h5, fun t ht => ?_, fun d hd => ?_, fun k hk => ?_, fun k hk => ?_, fun r hr => ?_⟩
  · rw [e _ (by omega) (by omega), e _ (by omega) (by omega), e _ (by omega) (by omega), e _ (by omega) (by omega)]
    exact h6 t ht
  · rw [e _ (by omega) (by omega)]; exact h7 d hd
  · rw [e _ (by omega) (by omega)]; exact h8 k hk
  · rw [e _ (by omega) (by omega)]; exact h9 k hk
  · rcases Nat.lt_or_ge r (s 4) with g | g
    · rw [e _ (by omega) (by omega), e _ (by omega) (by omega), e _ (by omega) (by omega), eb]
      exact h10 r g
    · obtain rfl : r = s 4 := by omega
      rw [ea, ebb, ec, eb]
      exact ⟨ha, hb, hc⟩
theorem q_reading {q_wall_wide : Int32} {q_wall_high : Int32} {q_wall_slackNow : Int32} {q_wall_tenants : Int32} {q_wall_letters : Int32} {q_wall_readings : Int32} {q_wall_kinds : Nat → Int32} {q_wall_painOf : Nat → Int32} {q_wall_payFor : Nat → Int32} {q_wall_refused : Nat → Int32} {q_wall_owned : Nat → Int64} {q_wall_litIn : Nat → Int64} {q_wall_shapes : Nat → Int32} {q_wall_readAt : Nat → Int32} {q_wall_meant : Nat → Int32} {q_wall_readSo : Nat → Int32} {u_st u_refused u_ones : Nat → Int32} {q_wereBad q_wereNo q_wereFull : Int32} (v1 : Int32) (v2 : Int32) (v3 : Int32) (hf : 5000 ≤ fu) (I : Iv s) (W : WR q_wall_wide q_wall_high q_wall_slackNow q_wall_tenants q_wall_letters q_wall_readings q_wall_kinds q_wall_painOf q_wall_payFor q_wall_refused q_wall_owned q_wall_litIn q_wall_shapes q_wall_readAt q_wall_meant q_wall_readSo s) (R : SR u_st s) (hS : SS u_refused q_wereBad q_wereNo q_wereFull) : ∃ r u s2, f_X7_reading fu q_wereBad q_wereNo q_wereFull q_wall_wide q_wall_high q_wall_letters q_wall_readings q_wall_readAt q_wall_meant q_wall_readSo v1 v2 v3 = some r ∧ f_X8_reading fu u_st u_refused v1 v2 v3 = some u ∧ r.1 = u.1 ∧ SS u.2.2 r.2.1 r.2.2.1 r.2.2.2.1 ∧ Iv s2 ∧ SR u.2.1 s2 ∧ WR q_wall_wide q_wall_high q_wall_slackNow q_wall_tenants q_wall_letters r.2.2.2.2.1 q_wall_kinds q_wall_painOf q_wall_payFor q_wall_refused q_wall_owned q_wall_litIn q_wall_shapes r.2.2.2.2.2.1 r.2.2.2.2.2.2.1 r.2.2.2.2.2.2.2 s2 := by
  have W0 := W
  obtain ⟨⟨rfl, rfl, rfl, rfl, rfl, rfl⟩, T, L, S, D⟩ := W
  have hd := SR_hd I R
  have i3 := I.2.2.2.1
  have i4 := I.2.2.2.2.1
  rw [f_X7_reading, f_X8_reading, f_X5_addReading, x5_isBox I, pz_bind, x8_isBox I R, pz_bind]
  have bad : ∃ r u s2, ((X5_addReading_J29 fu (nI (s 0)) (nI (s 1)) (nI (s 3)) (nI (s 4)) q_wall_readAt q_wall_meant q_wall_readSo).bind fun t8 => (f_X7_counted fu q_wereBad q_wereNo q_wereFull t8.1).bind fun t11 => some (t11.1, t11.2.1, t11.2.2.1, t11.2.2.2, t8.2.1, t8.2.2.1, t8.2.2.2.1, t8.2.2.2.2)) = some r ∧ X8_reading_J29 fu u_st u_refused = some u ∧ r.1 = u.1 ∧ SS u.2.2 r.2.1 r.2.2.1 r.2.2.2.1 ∧ Iv s2 ∧ SR u.2.1 s2 ∧ WR (nI (s 0)) (nI (s 1)) (nI (s 5)) (nI (s 2)) (nI (s 3)) r.2.2.2.2.1 q_wall_kinds q_wall_painOf q_wall_payFor q_wall_refused q_wall_owned q_wall_litIn q_wall_shapes r.2.2.2.2.2.1 r.2.2.2.2.2.2.1 r.2.2.2.2.2.2.2 s2 := by
    rw [X5_addReading_J29, pz_bind, X8_reading_J29]
    dsimp only
    rw [c_bad, pz_bind, t_bad, pz_bind]
    exact ⟨_, _, s, rfl, rfl, rfl, SS_bad hS, I, R, W0⟩
  cases hb : boxB s (vN v1)
  · rw [if_pos b_f, if_pos b_f]
    exact bad
  · rw [if_neg b_t, if_neg b_t, x5_isLetter i3, pz_bind, x8_isLetter I R, pz_bind]
    have hbl := boxB_lt I hb
    by_cases hm : vN v2 < s 3
    · rw [decide_eq_true hm, if_neg b_t, if_neg b_t]
      have ev := vN_e (v := v1) (by omega)
      have ev2 := vN_e (v := v2) (by omega)
      generalize vN v1 = a at *
      generalize vN v2 = b at *
      subst ev
      subst ev2
      have good : ∀ c v, (c = 65535 ∨ c < s 3) → v = eI c → ∃ r u s2, ((X5_addReading_J32 fu (nI (s 0)) (nI (s 1)) (nI (s 3)) (nI (s 4)) q_wall_readAt q_wall_meant q_wall_readSo (nI a) (nI b) v).bind fun t8 => (f_X7_counted fu q_wereBad q_wereNo q_wereFull t8.1).bind fun t11 => some (t11.1, t11.2.1, t11.2.2.1, t11.2.2.2, t8.2.1, t8.2.2.1, t8.2.2.2.1, t8.2.2.2.2)) = some r ∧ X8_reading_J36 fu u_st u_refused (nI a) (nI b) v = some u ∧ r.1 = u.1 ∧ SS u.2.2 r.2.1 r.2.2.1 r.2.2.2.1 ∧ Iv s2 ∧ SR u.2.1 s2 ∧ WR (nI (s 0)) (nI (s 1)) (nI (s 5)) (nI (s 2)) (nI (s 3)) r.2.2.2.2.1 q_wall_kinds q_wall_painOf q_wall_payFor q_wall_refused q_wall_owned q_wall_litIn q_wall_shapes r.2.2.2.2.2.1 r.2.2.2.2.2.2.1 r.2.2.2.2.2.2.2 s2 := by
        intro c v hc hv
        rw [X5_addReading_J32, X8_reading_J36, hd.2.2.2.2.1]
        by_cases g : s 4 = 6
        · rw [if_neg (by rw [pz_c6, pz_lt (by omega) (by omega)]; omega), if_pos (by rw [g]; rfl), pz_bind]
          dsimp only
          rw [c_full, pz_bind, t_full, pz_bind]
          exact ⟨_, _, s, rfl, rfl, rfl, SS_full hS, I, R, W0⟩
        · have ok : (∃ k, k < 2 ^ 31 ∧ nI (s 4) = nI k) ∨ nI (s 4) = -nI 1 := Or.inl ⟨s 4, by omega, rfl⟩
          have em : nI (s 4 + 1) - 1 = nI (s 4) := by rw [pz_c1, pk_sub (by omega), Nat.add_sub_cancel]
          have e1 : nI (336 + 3 * s 4) + 1 = nI (336 + 3 * s 4 + 1) := nI_1 _
          have e2 : nI (336 + 3 * s 4) + 2 = nI (336 + 3 * s 4 + 2) := by rw [pz_c2, nI_add]
          have ez : upd (upd (upd u_st (336 + 3 * s 4) (nI a)) (336 + 3 * s 4 + 1) (nI b)) (336 + 3 * s 4 + 2) v 4 = nI (s 4) := by
            rw [pk_un (by omega), pk_un (by omega), pk_un (by omega), hd.2.2.2.2.1]
          rw [if_pos (by rw [pz_c6, pz_lt (by omega) (by omega)]; omega), if_neg (by rw [pz_c6, pz_eq (by omega) (by omega)]; exact g), pz_ck _ (by omega) (by omega), pz_ck _ (by omega) (by omega), pz_ck _ (by omega) (by omega), pz_cl (by omega), pz_let, pz_c3, pk_mul, pz_c336, nI_add, e1, e2, pz_ck _ (by omega) (by omega), pz_ck _ (by omega) (by omega), pz_ck _ (by omega) (by omega), pz_cl (by omega), pz_cl (by omega), pz_cl (by omega), ez, nI_1, pk_us, em, pz_bind]
          dsimp only
          rw [c_ok ok, pz_bind]
          obtain ⟨e4, ea, ebb, ec, e⟩ := rnS_at (s := s) (a := a) (b := b) (c := c)
          have hI := Iv_rn I (by omega) hb hm hc
          have hR : SR (upd (upd (upd (upd u_st (336 + 3 * s 4) (nI a)) (336 + 3 * s 4 + 1) (nI b)) (336 + 3 * s 4 + 2) v) 4 (nI (s 4 + 1))) (rnS s a b c) := SR_un (SR_un (SR_un (SR_un R (by rw [eI_of (by omega)])) (by rw [eI_of (by omega)])) hv) (by rw [eI_of (by omega)])
          have hD : DR (rnS s a b c) (upd q_wall_readAt (s 4) (nI a)) (upd q_wall_meant (s 4) (nI b)) (upd q_wall_readSo (s 4) v) := by
            intro t ht
            rw [e4] at ht
            rcases Nat.lt_or_ge t (s 4) with q | q
            · rw [pk_un (by omega), pk_un (by omega), pk_un (by omega), e _ (by omega) (by omega), e _ (by omega) (by omega), e _ (by omega) (by omega)]
              exact D t q
            · obtain rfl : t = s 4 := by omega
              rw [pk_us, pk_us, pk_us, ea, ebb, ec]
              exact ⟨rfl, rfl, hv⟩
          refine ⟨_, _, rnS s a b c, rfl, rfl, rfl, hS, hI, hR, ⟨⟨?_, ?_, ?_, ?_, ?_, ?_⟩, TR_of I T (e 2 (by omega) (by omega)) (fun j _ _ => e j (by omega) (by omega)) (fun j _ _ => e j (by omega) (by omega)), LR_of L (fun j _ _ => e j (by omega) (by omega)), HR_of I S (e 3 (by omega) (by omega)) (fun j _ _ => e j (by omega) (by omega)), hD⟩⟩
          · rw [e _ (by omega) (by omega)]
          · rw [e _ (by omega) (by omega)]
          · rw [e _ (by omega) (by omega)]
          · rw [e _ (by omega) (by omega)]
          · rw [e _ (by omega) (by omega)]
          · rw [e4]
      by_cases h1 : v3 = -1
      · rw [if_pos h1, if_pos h1]
        exact good 65535 v3 (Or.inl rfl) h1
      · rw [if_neg h1, if_neg h1, x5_isLetter i3, pz_bind, x8_isLetter I R, pz_bind]
        by_cases hl : vN v3 < s 3
        · have ev3 := vN_e (v := v3) (by omega)
          rw [decide_eq_true hl, if_neg b_t, if_neg b_t]
          exact good (vN v3) v3 (Or.inr hl) (by rw [eI_of (by omega)]; exact ev3)
        · rw [decide_eq_false hl, if_pos b_f, if_pos b_f]
          exact bad
    · rw [decide_eq_false hm, if_pos b_f, if_pos b_f]
      exact bad
end
