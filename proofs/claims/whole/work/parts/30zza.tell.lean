/-! AN ITEM TOLD: the wall's own calls, without the counting -/
def OKv (v : Int32) : Prop := v = -nI 1 ∨ ∃ k, k < 2 ^ 31 ∧ v = nI k
def NOv (v : Int32) : Prop := v = -2 ∨ v = -3 ∨ v = -4
theorem OK_ne {v : Int32} (h : OKv v) : ¬ v = -2 ∧ ¬ v = -3 ∧ ¬ v = -4 ∧ ¬ v = -10 := by
  rcases h with rfl | ⟨k, hk, rfl⟩
  · decide +kernel
  · refine ⟨?_, ?_, ?_, ?_⟩
    · rw [show (-2 : Int32) = -nI 2 from rfl, pz_eqm hk (by decide) (by decide)]; exact id
    · rw [show (-3 : Int32) = -nI 3 from rfl, pz_eqm hk (by decide) (by decide)]; exact id
    · rw [show (-4 : Int32) = -nI 4 from rfl, pz_eqm hk (by decide) (by decide)]; exact id
    · rw [show (-10 : Int32) = -nI 10 from rfl, pz_eqm hk (by decide) (by decide)]; exact id
theorem lt_m2 : (-2 : Int32) < 0 ∧ (-3 : Int32) < 0 ∧ (-4 : Int32) < 0 ∧ (-2 : Int32) ≤ 0 ∧ (-3 : Int32) ≤ 0 ∧ ¬ (1 : Int32) ≤ 0 := by decide +kernel
section
variable {fu : Nat} {s : Nat → Nat} {st ones rf : Nat → Int32}
theorem cnt1 {a b c v : Int32} {x : Int32 × Int32 × Int32 × Int32} (h : f_X7_counted fu a b c v = some x) : x.1 = v := by
  simp only [f_X7_counted, X7_counted_J16, X7_counted_J32, X7_counted_J48] at h
  repeat' split at h
  all_goals (rw [← Option.some.inj h])
theorem tld1 {v : Int32} {x : Int32 × (Nat → Int32)} (h : f_X8_told fu rf v = some x) : x.1 = v := by
  simp only [f_X8_told, X8_told_J12, X8_told_J60] at h
  repeat' split at h
  all_goals (rw [← Option.some.inj h])
theorem SS0 : SS (fun _ => 0) 0 0 0 := by
  unfold SS
  decide +kernel
theorem rg_wall {v1 v2 : Int32} {u : Int32 × (Nat → Int32)} (hf : 5000 ≤ fu) (h : f_X8_putWall fu st v1 v2 = some u) : (u.1 = -2 ∧ u.1 ≤ 0) ∨ (u.1 = nI 1 ∧ ¬ u.1 ≤ 0) := by
  rw [f_X8_putWall, show f_X8_in fu v1 3 12 = _ from x8_in (lo := 3) (hi := 12) (by decide) (by decide) v1, pz_bind, X8_putWall_J19] at h
  split at h
  · rw [← Option.some.inj h]; exact Or.inl ⟨rfl, lt_m2.2.2.2.1⟩
  · rw [show f_X8_in fu v2 4 5 = _ from x8_in (lo := 4) (hi := 5) (by decide) (by decide) v2, pz_bind] at h
    split at h
    · rw [← Option.some.inj h]; exact Or.inl ⟨rfl, lt_m2.2.2.2.1⟩
    · obtain ⟨a, -, h2⟩ := Option.bind_eq_some_iff.mp h
      rw [← Option.some.inj h2]; exact Or.inr ⟨rfl, lt_m2.2.2.2.2.2⟩
theorem rg_man {v1 v2 v3 : Int32} {u : Int32 × (Nat → Int32)} (I : Iv s) (R : SR st s) (h : f_X8_putMan fu st v1 v2 v3 = some u) : (NOv u.1 ∧ u.1 < 0) ∨ (OKv u.1 ∧ ¬ u.1 < 0) := by
  have i2 := I.2.2.1
  have in1 := show f_X8_in fu v1 0 5 = _ from x8_in (lo := 0) (hi := 5) (by decide) (by decide) v1
  have in2 := show f_X8_in fu v2 0 9 = _ from x8_in (lo := 0) (hi := 9) (by decide) (by decide) v2
  have in3 := show f_X8_in fu v3 0 99 = _ from x8_in (lo := 0) (hi := 99) (by decide) (by decide) v3
  have bad : ∀ x : Int32 × (Nat → Int32), some ((-2 : Int32), st) = some x → (NOv x.1 ∧ x.1 < 0) ∨ (OKv x.1 ∧ ¬ x.1 < 0) := fun x e => by
    rw [← Option.some.inj e]; exact Or.inl ⟨Or.inl rfl, lt_m2.1⟩
  by_cases a1 : 0 ≤ vN v1 ∧ vN v1 ≤ 5
  · by_cases b1 : 0 ≤ vN v2 ∧ vN v2 ≤ 9
    · by_cases c1 : 0 ≤ vN v3 ∧ vN v3 ≤ 99
      · rw [vN_e (v := v1) (by omega), vN_e (v := v2) (by omega), vN_e (v := v3) (by omega), x8_putMan I R a1.2 b1.2 c1.2] at h
        by_cases g : s 2 = 6
        · rw [if_pos g] at h
          rw [← Option.some.inj h]; exact Or.inl ⟨Or.inr (Or.inr rfl), lt_m2.2.2.1⟩
        · rw [if_neg g] at h
          rw [← Option.some.inj h]; exact Or.inr ⟨Or.inr ⟨s 2, by omega, rfl⟩, nI_pos (by omega)⟩
      · rw [f_X8_putMan, in1, pz_bind, decide_eq_true a1, if_neg b_t, in2, pz_bind, decide_eq_true b1, if_neg b_t, in3, pz_bind, decide_eq_false c1, if_pos b_f, X8_putMan_J29] at h
        exact bad _ h
    · rw [f_X8_putMan, in1, pz_bind, decide_eq_true a1, if_neg b_t, in2, pz_bind, decide_eq_false b1, if_pos b_f, X8_putMan_J29] at h
      exact bad _ h
  · rw [f_X8_putMan, in1, pz_bind, decide_eq_false a1, if_pos b_f, X8_putMan_J29] at h
    exact bad _ h
theorem rg_letter {v1 : Int32} {u : Int32 × (Nat → Int32)} (I : Iv s) (R : SR st s) (h : f_X8_putLetter fu st v1 = some u) : (NOv u.1 ∧ u.1 < 0) ∨ (OKv u.1 ∧ ¬ u.1 < 0) := by
  have hd := SR_hd I R
  have i3 := I.2.2.2.1
  rw [f_X8_putLetter, show f_X8_in fu v1 0 4095 = _ from x8_in (lo := 0) (hi := 4095) (by decide) (by decide) v1, pz_bind] at h
  have go : ∀ n a k, X8_putLetter_L11 fu st v1 n a k = some u → (NOv u.1 ∧ u.1 < 0) ∨ (OKv u.1 ∧ ¬ u.1 < 0) := by
    intro n
    induction n with
    | zero => intro a k e; rw [X8_putLetter_L11] at e; exact absurd e (by simp)
    | succ n ih =>
      intro a k e
      rw [X8_putLetter_L11] at e
      simp only [X8_putLetter_J42, X8_putLetter_J43] at e
      split at e
      · split at e
        · rw [← Option.some.inj e]; exact Or.inl ⟨Or.inl rfl, lt_m2.1⟩
        · split at e
          · rw [← Option.some.inj e]; exact Or.inl ⟨Or.inr (Or.inr rfl), lt_m2.2.2.1⟩
          · have e3 : upd st (30 + s 3) v1 3 = nI (s 3) := by rw [pk_un (by omega), hd.2.2.2.1]
            rw [hd.2.2.2.1, pz_c30, nI_add, pz_ck _ (by omega) (by omega), pz_cl (by omega), e3, nI_1, pk_us, pz_c1, pk_sub (by omega), Nat.add_sub_cancel] at e
            rw [← Option.some.inj e]; exact Or.inr ⟨Or.inr ⟨s 3, by omega, rfl⟩, nI_pos (by omega)⟩
      · split at e
        · exact ih _ _ e
        · rw [mm_rd] at e
          split at e
          · split at e
            · exact ih _ _ e
            · exact ih _ _ e
          · exact absurd e (by simp)
  exact go _ _ _ h
theorem rg_light {v1 v2 v3 : Int32} {u : Int32 × (Nat → Int32)} (h : f_X8_putLight fu st v1 v2 v3 = some u) : (NOv u.1 ∧ u.1 ≤ 0) ∨ (OKv u.1 ∧ ¬ u.1 ≤ 0) := by
  have bad : ∀ x : Int32 × (Nat → Int32), some ((-2 : Int32), st) = some x → (NOv x.1 ∧ x.1 ≤ 0) ∨ (OKv x.1 ∧ ¬ x.1 ≤ 0) := fun x e => by
    rw [← Option.some.inj e]; exact Or.inl ⟨Or.inl rfl, lt_m2.2.2.2.1⟩
  rw [f_X8_putLight, X8_putLight_J15] at h
  obtain ⟨a, -, h⟩ := Option.bind_eq_some_iff.mp h
  split at h
  · exact bad _ h
  · obtain ⟨a, -, h⟩ := Option.bind_eq_some_iff.mp h
    split at h
    · exact bad _ h
    · rw [pz_let, mm_rd] at h
      by_cases hb : mm_ib (96 + 60 * v1 + v2) 354 = true
      · rw [if_pos hb] at h
        split at h
        · rw [← Option.some.inj h]; exact Or.inl ⟨Or.inr (Or.inl rfl), lt_m2.2.2.2.2.1⟩
        · rw [mm_ck, if_pos hb] at h
          rw [← Option.some.inj h]; exact Or.inr ⟨Or.inr ⟨1, by omega, rfl⟩, lt_m2.2.2.2.2.2⟩
      · rw [if_neg hb] at h
        exact absurd h (by simp)
theorem rg_slack {v1 : Int32} {u : Int32 × (Nat → Int32)} (I : Iv s) (R : SR st s) (h : f_X8_putSlack fu st v1 = some u) : (NOv u.1 ∧ u.1 < 0) ∨ (OKv u.1 ∧ ¬ u.1 < 0) := by
  have hd := SR_hd I R
  have i5 := I.2.2.2.2.2.1
  rw [f_X8_putSlack] at h
  obtain ⟨a, -, h⟩ := Option.bind_eq_some_iff.mp h
  split at h
  · rw [← Option.some.inj h]; exact Or.inl ⟨Or.inl rfl, lt_m2.1⟩
  · rw [← Option.some.inj h, hd.2.2.2.2.2]; exact Or.inr ⟨Or.inr ⟨s 5, by omega, rfl⟩, nI_pos (by omega)⟩
section
variable {q_wall_wide q_wall_high q_wall_slackNow q_wall_tenants q_wall_letters q_wall_readings : Int32} {q_wall_kinds q_wall_painOf q_wall_payFor q_wall_refused : Nat → Int32} {q_wall_owned q_wall_litIn : Nat → Int64} {q_wall_shapes q_wall_readAt q_wall_meant q_wall_readSo : Nat → Int32}
theorem y_wall (v1 v2 : Int32) (hf : 5000 ≤ fu) (I : Iv s) (W : WR q_wall_wide q_wall_high q_wall_slackNow q_wall_tenants q_wall_letters q_wall_readings q_wall_kinds q_wall_painOf q_wall_payFor q_wall_refused q_wall_owned q_wall_litIn q_wall_shapes q_wall_readAt q_wall_meant q_wall_readSo s) (R : SR st s) : ∃ t u s2, f_X5_setSize fu q_wall_wide q_wall_high q_wall_slackNow q_wall_tenants q_wall_letters q_wall_readings q_wall_litIn v1 v2 = some t ∧ f_X8_putWall fu st v1 v2 = some u ∧ ((NOv t.1 ∧ u.1 ≤ 0) ∨ (OKv t.1 ∧ ¬ u.1 ≤ 0)) ∧ Iv s2 ∧ SR u.2 s2 ∧ WR t.2.1 t.2.2.1 t.2.2.2.1 t.2.2.2.2.1 t.2.2.2.2.2.1 t.2.2.2.2.2.2.1 q_wall_kinds q_wall_painOf q_wall_payFor q_wall_refused q_wall_owned t.2.2.2.2.2.2.2 q_wall_shapes q_wall_readAt q_wall_meant q_wall_readSo s2 := by
  obtain ⟨r, u, s2, er, eu, e1, -, hI, hR, hW⟩ := q_wall (u_ones := fun _ => 0) v1 v2 hf I W R SS0
  rw [f_X7_wall] at er
  rw [f_X8_wall] at eu
  obtain ⟨t, et, er⟩ := Option.bind_eq_some_iff.mp er
  obtain ⟨c, ec, er⟩ := Option.bind_eq_some_iff.mp er
  obtain ⟨t2, et2, eu⟩ := Option.bind_eq_some_iff.mp eu
  obtain ⟨c2, ec2, eu⟩ := Option.bind_eq_some_iff.mp eu
  obtain rfl := Option.some.inj er
  obtain rfl := Option.some.inj eu
  have k1 := cnt1 ec
  have k2 := tld1 ec2
  have k3 : t.1 = t2.1 := k1.symm.trans (e1.trans k2)
  refine ⟨t, t2, s2, et, et2, ?_, hI, hR, hW⟩
  rcases rg_wall hf et2 with ⟨g1, g2⟩ | ⟨g1, g2⟩
  · exact Or.inl ⟨k3 ▸ Or.inl g1, g2⟩
  · exact Or.inr ⟨k3 ▸ Or.inr ⟨1, by omega, g1⟩, g2⟩
theorem y_tenant (v1 v2 v3 : Int32) (hf : 5000 ≤ fu) (I : Iv s) (W : WR q_wall_wide q_wall_high q_wall_slackNow q_wall_tenants q_wall_letters q_wall_readings q_wall_kinds q_wall_painOf q_wall_payFor q_wall_refused q_wall_owned q_wall_litIn q_wall_shapes q_wall_readAt q_wall_meant q_wall_readSo s) (R : SR st s) : ∃ t u s2, f_X5_addTenant fu q_wall_tenants q_wall_kinds q_wall_painOf q_wall_payFor q_wall_refused q_wall_owned v1 v2 v3 = some t ∧ f_X8_putMan fu st v1 v2 v3 = some u ∧ ((NOv t.1 ∧ u.1 < 0) ∨ (OKv t.1 ∧ ¬ u.1 < 0)) ∧ Iv s2 ∧ SR u.2 s2 ∧ WR q_wall_wide q_wall_high q_wall_slackNow t.2.1 q_wall_letters q_wall_readings t.2.2.1 t.2.2.2.1 t.2.2.2.2.1 t.2.2.2.2.2.1 t.2.2.2.2.2.2 q_wall_litIn q_wall_shapes q_wall_readAt q_wall_meant q_wall_readSo s2 := by
  obtain ⟨r, u, s2, er, eu, e1, -, hI, hR, hW⟩ := q_tenant (u_ones := fun _ => 0) v1 v2 v3 hf I W R SS0
  rw [f_X7_tenant] at er
  rw [f_X8_tenant] at eu
  obtain ⟨t, et, er⟩ := Option.bind_eq_some_iff.mp er
  obtain ⟨c, ec, er⟩ := Option.bind_eq_some_iff.mp er
  obtain ⟨t2, et2, eu⟩ := Option.bind_eq_some_iff.mp eu
  obtain ⟨c2, ec2, eu⟩ := Option.bind_eq_some_iff.mp eu
  obtain rfl := Option.some.inj er
  obtain rfl := Option.some.inj eu
  have k3 : t.1 = t2.1 := (cnt1 ec).symm.trans (e1.trans (tld1 ec2))
  refine ⟨t, t2, s2, et, et2, ?_, hI, hR, hW⟩
  rw [k3]
  exact rg_man I R et2
theorem y_letter (v1 : Int32) (hf : 5000 ≤ fu) (I : Iv s) (W : WR q_wall_wide q_wall_high q_wall_slackNow q_wall_tenants q_wall_letters q_wall_readings q_wall_kinds q_wall_painOf q_wall_payFor q_wall_refused q_wall_owned q_wall_litIn q_wall_shapes q_wall_readAt q_wall_meant q_wall_readSo s) (R : SR st s) : ∃ t u s2, f_X5_addLetter fu q_wall_letters q_wall_shapes v1 = some t ∧ f_X8_putLetter fu st v1 = some u ∧ ((NOv t.1 ∧ u.1 < 0) ∨ (OKv t.1 ∧ ¬ u.1 < 0)) ∧ Iv s2 ∧ SR u.2 s2 ∧ WR q_wall_wide q_wall_high q_wall_slackNow q_wall_tenants t.2.1 q_wall_readings q_wall_kinds q_wall_painOf q_wall_payFor q_wall_refused q_wall_owned q_wall_litIn t.2.2 q_wall_readAt q_wall_meant q_wall_readSo s2 := by
  obtain ⟨r, u, s2, er, eu, e1, -, hI, hR, hW⟩ := q_letter (u_ones := fun _ => 0) v1 hf I W R SS0
  rw [f_X7_letter] at er
  rw [f_X8_letter] at eu
  obtain ⟨t, et, er⟩ := Option.bind_eq_some_iff.mp er
  obtain ⟨c, ec, er⟩ := Option.bind_eq_some_iff.mp er
  obtain ⟨t2, et2, eu⟩ := Option.bind_eq_some_iff.mp eu
  obtain ⟨c2, ec2, eu⟩ := Option.bind_eq_some_iff.mp eu
  obtain rfl := Option.some.inj er
  obtain rfl := Option.some.inj eu
  have k3 : t.1 = t2.1 := (cnt1 ec).symm.trans (e1.trans (tld1 ec2))
  refine ⟨t, t2, s2, et, et2, ?_, hI, hR, hW⟩
  rw [k3]
  exact rg_letter I R et2
theorem y_slack (v1 : Int32) (hf : 5000 ≤ fu) (I : Iv s) (W : WR q_wall_wide q_wall_high q_wall_slackNow q_wall_tenants q_wall_letters q_wall_readings q_wall_kinds q_wall_painOf q_wall_payFor q_wall_refused q_wall_owned q_wall_litIn q_wall_shapes q_wall_readAt q_wall_meant q_wall_readSo s) (R : SR st s) : ∃ t u s2, f_X5_setSlack fu q_wall_slackNow v1 = some t ∧ f_X8_putSlack fu st v1 = some u ∧ ((NOv t.1 ∧ u.1 < 0) ∨ (OKv t.1 ∧ ¬ u.1 < 0)) ∧ Iv s2 ∧ SR u.2 s2 ∧ WR q_wall_wide q_wall_high t.2 q_wall_tenants q_wall_letters q_wall_readings q_wall_kinds q_wall_painOf q_wall_payFor q_wall_refused q_wall_owned q_wall_litIn q_wall_shapes q_wall_readAt q_wall_meant q_wall_readSo s2 := by
  obtain ⟨r, u, s2, er, eu, e1, -, hI, hR, hW⟩ := q_slack (u_ones := fun _ => 0) v1 hf I W R SS0
  rw [f_X7_slack] at er
  rw [f_X8_slack] at eu
  obtain ⟨t, et, er⟩ := Option.bind_eq_some_iff.mp er
  obtain ⟨c, ec, er⟩ := Option.bind_eq_some_iff.mp er
  obtain ⟨t2, et2, eu⟩ := Option.bind_eq_some_iff.mp eu
  obtain ⟨c2, ec2, eu⟩ := Option.bind_eq_some_iff.mp eu
  obtain rfl := Option.some.inj er
  obtain rfl := Option.some.inj eu
  have k3 : t.1 = t2.1 := (cnt1 ec).symm.trans (e1.trans (tld1 ec2))
  refine ⟨t, t2, s2, et, et2, ?_, hI, hR, hW⟩
  rw [k3]
  exact rg_slack I R et2
theorem y_lit (v1 v2 : Int32) (hf : 5000 ≤ fu) (I : Iv s) (W : WR q_wall_wide q_wall_high q_wall_slackNow q_wall_tenants q_wall_letters q_wall_readings q_wall_kinds q_wall_painOf q_wall_payFor q_wall_refused q_wall_owned q_wall_litIn q_wall_shapes q_wall_readAt q_wall_meant q_wall_readSo s) (R : SR st s) : ∃ t u s2, f_X5_setLit fu q_wall_wide q_wall_high q_wall_litIn v1 v2 1 = some t ∧ f_X8_putLight fu st v1 v2 1 = some u ∧ ((NOv t.1 ∧ u.1 ≤ 0) ∨ (OKv t.1 ∧ ¬ u.1 ≤ 0)) ∧ Iv s2 ∧ SR u.2 s2 ∧ WR q_wall_wide q_wall_high q_wall_slackNow q_wall_tenants q_wall_letters q_wall_readings q_wall_kinds q_wall_painOf q_wall_payFor q_wall_refused q_wall_owned t.2 q_wall_shapes q_wall_readAt q_wall_meant q_wall_readSo s2 := by
  obtain ⟨r, u, s2, er, eu, e1, -, hI, hR, hW⟩ := q_lit (u_ones := fun _ => 0) v1 v2 1 hf I W R SS0 (Or.inr rfl)
  rw [f_X7_lit] at er
  rw [f_X8_lit, if_neg (by decide), X8_lit_J13] at eu
  obtain ⟨t, et, er⟩ := Option.bind_eq_some_iff.mp er
  obtain ⟨c, ec, er⟩ := Option.bind_eq_some_iff.mp er
  obtain ⟨t2, et2, eu⟩ := Option.bind_eq_some_iff.mp eu
  obtain ⟨c2, ec2, eu⟩ := Option.bind_eq_some_iff.mp eu
  obtain rfl := Option.some.inj er
  obtain rfl := Option.some.inj eu
  have k3 : t.1 = t2.1 := (cnt1 ec).symm.trans (e1.trans (tld1 ec2))
  refine ⟨t, t2, s2, et, et2, ?_, hI, hR, hW⟩
  rw [k3]
  exact rg_light et2
theorem y_has (v1 v2 : Int32) (hf : 5000 ≤ fu) (I : Iv s) (W : WR q_wall_wide q_wall_high q_wall_slackNow q_wall_tenants q_wall_letters q_wall_readings q_wall_kinds q_wall_painOf q_wall_payFor q_wall_refused q_wall_owned q_wall_litIn q_wall_shapes q_wall_readAt q_wall_meant q_wall_readSo s) (R : SR st s) : ∃ t u s2, f_X5_setOwner fu q_wall_wide q_wall_high q_wall_tenants q_wall_owned v1 v2 = some t ∧ f_X8_putOwner fu st v1 v2 = some u ∧ ((NOv t.1 ∧ u.1 = -10) ∨ (OKv t.1 ∧ ¬ u.1 = -10)) ∧ Iv s2 ∧ SR u.2 s2 ∧ WR q_wall_wide q_wall_high q_wall_slackNow q_wall_tenants q_wall_letters q_wall_readings q_wall_kinds q_wall_painOf q_wall_payFor q_wall_refused t.2 q_wall_litIn q_wall_shapes q_wall_readAt q_wall_meant q_wall_readSo s2 := by
  have W0 := W
  obtain ⟨⟨rfl, rfl, rfl, rfl, rfl, rfl⟩, T, L, S, D⟩ := W
  have i2 := I.2.2.1
  have i0 := I.1
  have i1 := I.2.1
  rw [f_X5_setOwner, f_X8_putOwner, x5_isWindow I, pz_bind, x8_isWindow I R, pz_bind]
  have bad : ∃ t u s2, X5_setOwner_J21 fu (nI (s 0)) (nI (s 1)) (nI (s 2)) q_wall_owned = some t ∧ X8_putOwner_J21 fu st = some u ∧ ((NOv t.1 ∧ u.1 = -10) ∨ (OKv t.1 ∧ ¬ u.1 = -10)) ∧ Iv s2 ∧ SR u.2 s2 ∧ WR (nI (s 0)) (nI (s 1)) (nI (s 5)) (nI (s 2)) (nI (s 3)) (nI (s 4)) q_wall_kinds q_wall_painOf q_wall_payFor q_wall_refused t.2 q_wall_litIn q_wall_shapes q_wall_readAt q_wall_meant q_wall_readSo s2 := by
    exact ⟨_, _, s, rfl, rfl, Or.inl ⟨Or.inl rfl, rfl⟩, I, R, W0⟩
  cases hw : winB s (vN v1)
  · rw [if_pos b_f, if_pos b_f]
    exact bad
  · rw [if_neg b_t, if_neg b_t]
    have hc : vN v1 < 60 := by
      have := of_decide_eq_true hw
      omega
    have ev := vN_e (v := v1) (by omega)
    generalize vN v1 = c at *
    subst ev
    have io := I.2.2.2.2.2.2.2.1 c hc
    have good : ∀ x v, (x = 65535 ∨ x < s 2) → v = eI x → ∃ t u s2, X5_setOwner_J24 fu (nI (s 0)) (nI (s 1)) (nI (s 2)) q_wall_owned (nI c) v = some t ∧ X8_putOwner_J24 fu st (nI c) v = some u ∧ ((NOv t.1 ∧ u.1 = -10) ∨ (OKv t.1 ∧ ¬ u.1 = -10)) ∧ Iv s2 ∧ SR u.2 s2 ∧ WR (nI (s 0)) (nI (s 1)) (nI (s 5)) (nI (s 2)) (nI (s 3)) (nI (s 4)) q_wall_kinds q_wall_painOf q_wall_payFor q_wall_refused t.2 q_wall_litIn q_wall_shapes q_wall_readAt q_wall_meant q_wall_readSo s2 := by
      intro x v hx hv
      have e := R (36 + c) (by omega)
      have bit : ((1 : Int64) <<< ((nI c).toInt64 &&& 63)) = lN (1 <<< c) := by
        rw [pz_L63, pz_63 (by omega), pz_L1, pz_shlL _ (by omega)]
      -- the class takes the window from its owner
      have h1 : ∃ ow1 : Nat → Int64, (∀ t, t < s 2 → ow1 t = lN (OW (un s (36 + c) 65535) t)) ∧ X5_setOwner_J24 fu (nI (s 0)) (nI (s 1)) (nI (s 2)) q_wall_owned (nI c) v = X5_setOwner_J51 fu (nI (s 0)) (nI (s 1)) (nI (s 2)) ow1 (nI c) v (eI (s (36 + c))) := by
        rw [X5_setOwner_J24, x5_ownerOf hf I T hc, pz_bind]
        rcases io with h | h
        · refine ⟨q_wall_owned, fun t ht => ?_, by rw [if_pos (by rw [h]; rfl)]⟩
          rw [(T t ht).2.2.2.2, OW_not (by omega) (by omega)]
        · refine ⟨vp_updL q_wall_owned (s (36 + c)) (lN (OW (un s (36 + c) 65535) (s (36 + c)))), fun t ht => ?_, ?_⟩
          · by_cases g : t = s (36 + c)
            · rw [g, pk_uLs]
            · rw [pk_uLn g, (T t ht).2.2.2.2, OW_not (by omega) (by omega)]
          · rw [eI_of (by omega), if_neg (by rw [pz_c1, pz_eqm (by omega) (by decide) (by decide)]; exact id), pz_rd _ _ (by omega) (by omega), pz_ck _ (by omega) (by omega), pz_cl (by omega), (T _ h).2.2.2.2, bit, pz_negL, pz_xorL, pz_andL, OW_rm (by omega) hc]
      obtain ⟨ow1, o1, o2⟩ := h1
      have h2 : ∃ ow2 : Nat → Int64, (∀ t, t < s 2 → ow2 t = lN (OW (un s (36 + c) x) t)) ∧ X5_setOwner_J51 fu (nI (s 0)) (nI (s 1)) (nI (s 2)) ow1 (nI c) v (eI (s (36 + c))) = some (eI (s (36 + c)), ow2) := by
        rw [X5_setOwner_J51]
        rcases hx with h | h
        · refine ⟨ow1, fun t ht => ?_, by rw [if_pos (by rw [hv, h]; rfl), X5_setOwner_J68]⟩
          rw [o1 t ht, h]
        · refine ⟨vp_updL ow1 x (lN (OW (un s (36 + c) x) x)), fun t ht => ?_, ?_⟩
          · by_cases g : t = x
            · rw [g, pk_uLs]
            · have q := OW_not (s := un s (36 + c) 65535) (x := x) (c := c) (t := t) (by omega) (by rw [un_eq rfl]; omega)
              rw [un_un] at q
              rw [pk_uLn g, o1 t ht, q]
          · have q := OW_add (s := un s (36 + c) 65535) (x := x) hc
            rw [un_un] at q
            rw [hv, eI_of (n := x) (by omega), if_neg (by rw [pz_c1, pz_eqm (by omega) (by decide) (by decide)]; exact id), pz_rd _ _ (by omega) (by omega), pz_ck _ (by omega) (by omega), pz_cl (by omega), o1 x h, bit, pz_orL, q, X5_setOwner_J68]
      obtain ⟨ow2, p1, p2⟩ := h2
      have ne : ∀ j, j < 36 → un s (36 + c) x j = s j := fun j hj => un_ne (by omega)
      have okv : OKv (eI (s (36 + c))) := by
        rcases io with h | h
        · rw [h]; exact Or.inl rfl
        · rw [eI_of (by omega)]; exact Or.inr ⟨_, by omega, rfl⟩
      rw [o2, p2, X8_putOwner_J24, pz_c36, nI_add, pz_rd _ _ (by omega) (by omega), pz_ck _ (by omega) (by omega), pz_cl (by omega), e]
      refine ⟨_, _, un s (36 + c) x, rfl, rfl, Or.inr ⟨okv, (OK_ne okv).2.2.2⟩, Iv_own I hc hx, SR_un R hv, ⟨⟨?_, ?_, ?_, ?_, ?_, ?_⟩, fun t ht => ?_, LR_of L (fun j _ _ => un_ne (by omega)), HR_of I S (ne 3 (by omega)) (fun j _ _ => un_ne (by omega)), DR_of I D (ne 4 (by omega)) (fun j _ _ => un_ne (by omega))⟩⟩
      · rw [ne _ (by omega)]
      · rw [ne _ (by omega)]
      · rw [ne _ (by omega)]
      · rw [ne _ (by omega)]
      · rw [ne _ (by omega)]
      · rw [ne _ (by omega)]
      · rw [ne _ (by omega)] at ht
        obtain ⟨g1, g2, g3, g4, g5⟩ := T t ht
        rw [ne _ (by omega), ne _ (by omega), ne _ (by omega), ne _ (by omega)]
        exact ⟨g1, g2, g3, g4, p1 t ht⟩
    by_cases hm : v2 = -1
    · rw [if_pos hm, if_pos hm]
      exact good 65535 v2 (Or.inl rfl) hm
    · rw [if_neg hm, if_neg hm, x5_isTenant i2, pz_bind, x8_isMan I R, pz_bind]
      by_cases hl : vN v2 < s 2
      · have ev2 := vN_e (v := v2) (by omega)
        rw [decide_eq_true hl, if_neg b_t, if_neg b_t]
        exact good (vN v2) v2 (Or.inr hl) (by rw [eI_of (by omega)]; exact ev2)
      · rw [decide_eq_false hl, if_pos b_f, if_pos b_f]
        exact bad
end
end
