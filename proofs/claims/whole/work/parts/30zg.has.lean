/-! CALLS THAT CHANGE THE CELLS: has, lit -/
section
variable {fu : Nat} {s : Nat → Nat} {st ones rf : Nat → Int32}
theorem OW_rm {o c : Nat} (ho : o < 65535) (hc : c < 60) : OW s o &&& ((1 <<< c) ^^^ 18446744073709551615) = OW (un s (36 + c) 65535) o := by
  apply mkN_eq (and60 (OW_lt s o))
  intro i hi
  rw [Nat.testBit_and, not_bit hi, one_bit, OW_bit hi]
  by_cases e : i = c
  · rw [un_eq (by omega), decide_eq_true e, decide_eq_false (show ¬ 65535 = o by omega)]; simp
  · rw [un_ne (by omega), decide_eq_false e]; simp
theorem OW_add {x c : Nat} (hc : c < 60) : OW s x ||| (1 <<< c) = OW (un s (36 + c) x) x := by
  apply mkN_eq
  · apply Nat.or_lt_two_pow (OW_lt s x)
    rw [Nat.shiftLeft_eq, Nat.one_mul]
    exact Nat.pow_lt_pow_right (by decide) hc
  · intro i hi
    rw [Nat.testBit_or, one_bit, OW_bit hi]
    by_cases e : i = c
    · rw [un_eq (by omega), decide_eq_true e]; simp
    · rw [un_ne (by omega), decide_eq_false e]; simp
theorem OW_not {x c t : Nat} (hx : x ≠ t) (h : s (36 + c) ≠ t) : OW (un s (36 + c) x) t = OW s t := by
  apply mkN_cong
  intro i _
  by_cases e : i = c
  · rw [un_eq (by omega), e, decide_eq_false hx, decide_eq_false h]
  · rw [un_ne (by omega)]
theorem un_un {k a b : Nat} : un (un s k a) k b = un s k b := by
  funext j
  by_cases h : j = k
  · rw [un_eq h, un_eq h]
  · rw [un_ne (by omega), un_ne (by omega), un_ne (by omega)]
theorem Iv_own (I : Iv s) {c x : Nat} (hc : c < 60) (hx : x = 65535 ∨ x < s 2) : Iv (un s (36 + c) x) := by
  obtain ⟨h0, h1, h2, h3, h4, h5, h6, h7, h8, h9, h10⟩ := I
  have e : ∀ j, j < 6 → un s (36 + c) x j = s j := fun j hj => un_ne (by omega)
  have eb : ∀ d, boxB (un s (36 + c) x) d = boxB s d := fun d => by unfold boxB; rw [e 0 (by omega), e 1 (by omega)]
  unfold Iv
  rw [e 0 (by omega), e 1 (by omega), e 2 (by omega), e 3 (by omega), e 4 (by omega), e 5 (by omega)]
  refine ⟨h0, h1, h2, h3, h4, h5, fun t ht => ?_, fun d hd => ?_, fun k hk => ?_, fun k hk => ?_, fun r hr => ?_⟩
  · have := h6 t ht
    rw [un_ne (by omega), un_ne (by omega), un_ne (by omega), un_ne (by omega)]
    exact this
  · by_cases g : d = c
    · rw [un_eq (by omega)]; exact hx
    · rw [un_ne (by omega)]; exact h7 d hd
  · rw [un_ne (by omega)]; exact h8 k hk
  · rw [un_ne (by omega)]; exact h9 k hk
  · rw [un_ne (by omega), un_ne (by omega), un_ne (by omega), eb]
    exact h10 r hr
theorem q_has {q_wall_wide : Int32} {q_wall_high : Int32} {q_wall_slackNow : Int32} {q_wall_tenants : Int32} {q_wall_letters : Int32} {q_wall_readings : Int32} {q_wall_kinds : Nat → Int32} {q_wall_painOf : Nat → Int32} {q_wall_payFor : Nat → Int32} {q_wall_refused : Nat → Int32} {q_wall_owned : Nat → Int64} {q_wall_litIn : Nat → Int64} {q_wall_shapes : Nat → Int32} {q_wall_readAt : Nat → Int32} {q_wall_meant : Nat → Int32} {q_wall_readSo : Nat → Int32} {u_st u_refused u_ones : Nat → Int32} {q_wereBad q_wereNo q_wereFull : Int32} (v1 : Int32) (v2 : Int32) (hf : 5000 ≤ fu) (I : Iv s) (W : WR q_wall_wide q_wall_high q_wall_slackNow q_wall_tenants q_wall_letters q_wall_readings q_wall_kinds q_wall_painOf q_wall_payFor q_wall_refused q_wall_owned q_wall_litIn q_wall_shapes q_wall_readAt q_wall_meant q_wall_readSo s) (R : SR u_st s) (hS : SS u_refused q_wereBad q_wereNo q_wereFull) : ∃ r u s2, f_X7_has fu q_wereBad q_wereNo q_wereFull q_wall_wide q_wall_high q_wall_tenants q_wall_owned v1 v2 = some r ∧ f_X8_has fu u_st u_refused v1 v2 = some u ∧ r.1 = u.1 ∧ SS u.2.2 r.2.1 r.2.2.1 r.2.2.2.1 ∧ Iv s2 ∧ SR u.2.1 s2 ∧ WR q_wall_wide q_wall_high q_wall_slackNow q_wall_tenants q_wall_letters q_wall_readings q_wall_kinds q_wall_painOf q_wall_payFor q_wall_refused r.2.2.2.2 q_wall_litIn q_wall_shapes q_wall_readAt q_wall_meant q_wall_readSo s2 := by
  have W0 := W
  obtain ⟨⟨rfl, rfl, rfl, rfl, rfl, rfl⟩, T, L, S, D⟩ := W
  have i2 := I.2.2.1
  have i0 := I.1
  have i1 := I.2.1
  rw [f_X7_has, f_X8_has, f_X5_setOwner, f_X8_putOwner, x5_isWindow I, pz_bind, x8_isWindow I R, pz_bind]
  have bad : ∃ r u s2, ((X5_setOwner_J21 fu (nI (s 0)) (nI (s 1)) (nI (s 2)) q_wall_owned).bind fun t7 => (f_X7_countedApart fu q_wereBad q_wereNo q_wereFull t7.1).bind fun t10 => some (t10.1, t10.2.1, t10.2.2.1, t10.2.2.2, t7.2)) = some r ∧ ((X8_putOwner_J21 fu u_st).bind fun t4 => (f_X8_told fu u_refused t4.1).bind fun t7 => some (t7.1, t4.2, t7.2)) = some u ∧ r.1 = u.1 ∧ SS u.2.2 r.2.1 r.2.2.1 r.2.2.2.1 ∧ Iv s2 ∧ SR u.2.1 s2 ∧ WR (nI (s 0)) (nI (s 1)) (nI (s 5)) (nI (s 2)) (nI (s 3)) (nI (s 4)) q_wall_kinds q_wall_painOf q_wall_payFor q_wall_refused r.2.2.2.2 q_wall_litIn q_wall_shapes q_wall_readAt q_wall_meant q_wall_readSo s2 := by
    rw [X5_setOwner_J21, pz_bind, X8_putOwner_J21, pz_bind]
    dsimp only
    rw [ca_bad, pz_bind, t_not, pz_bind]
    exact ⟨_, _, s, rfl, rfl, rfl, SS_bad hS, I, R, W0⟩
  cases hw : winB s (vN v1)
  · rw [if_pos b_f, if_pos b_f]
    exact bad
  · rw [if_neg b_t, if_neg b_t]
    have hc : vN v1 < 60 := by
      have := of_decide_eq_true hw
      omega
    have ev := vN_e (v := v1) (by omega)
    generalize vN v1 = c at *
    subst ev
    have io := I.2.2.2.2.2.2.2.1 c hc
    have good : ∀ x v, (x = 65535 ∨ x < s 2) → v = eI x → ∃ r u s2, ((X5_setOwner_J24 fu (nI (s 0)) (nI (s 1)) (nI (s 2)) q_wall_owned (nI c) v).bind fun t7 => (f_X7_countedApart fu q_wereBad q_wereNo q_wereFull t7.1).bind fun t10 => some (t10.1, t10.2.1, t10.2.2.1, t10.2.2.2, t7.2)) = some r ∧ ((X8_putOwner_J24 fu u_st (nI c) v).bind fun t4 => (f_X8_told fu u_refused t4.1).bind fun t7 => some (t7.1, t4.2, t7.2)) = some u ∧ r.1 = u.1 ∧ SS u.2.2 r.2.1 r.2.2.1 r.2.2.2.1 ∧ Iv s2 ∧ SR u.2.1 s2 ∧ WR (nI (s 0)) (nI (s 1)) (nI (s 5)) (nI (s 2)) (nI (s 3)) (nI (s 4)) q_wall_kinds q_wall_painOf q_wall_payFor q_wall_refused r.2.2.2.2 q_wall_litIn q_wall_shapes q_wall_readAt q_wall_meant q_wall_readSo s2 := by
      intro x v hx hv
      have e := R (36 + c) (by omega)
      have ok := ok_eI (v := s (36 + c)) (by omega)
      have bit : ((1 : Int64) <<< ((nI c).toInt64 &&& 63)) = lN (1 <<< c) := by
        rw [pz_L63, pz_63 (by omega), pz_L1, pz_shlL _ (by omega)]
      -- the class takes the window from its owner
      have h1 : ∃ ow1 : Nat → Int64, (∀ t, t < s 2 → ow1 t = lN (OW (un s (36 + c) 65535) t)) ∧ X5_setOwner_J24 fu (nI (s 0)) (nI (s 1)) (nI (s 2)) q_wall_owned (nI c) v = X5_setOwner_J51 fu (nI (s 0)) (nI (s 1)) (nI (s 2)) ow1 (nI c) v (eI (s (36 + c))) := by
        rw [X5_setOwner_J24, x5_ownerOf hf I T hc, pz_bind]
        rcases io with h | h
        · refine ⟨q_wall_owned, fun t ht => ?_, by rw [if_pos (by rw [h]; rfl)]⟩
          rw [(T t ht).2.2.2.2, OW_not (by omega) (by omega)]
        · refine ⟨vp_updL q_wall_owned (s (36 + c)) (lN (OW (un s (36 + c) 65535) (s (36 + c)))), fun t ht => ?_, ?_⟩
          · by_cases g : t = s (36 + c)
            · rw [g, pk_uLs]
            · rw [pk_uLn g, (T t ht).2.2.2.2, OW_not (by omega) (by omega)]
          · rw [eI_of (by omega), if_neg (by rw [pz_c1, pz_eqm (by omega) (by decide) (by decide)]; exact id), pz_rd _ _ (by omega) (by omega), pz_ck _ (by omega) (by omega), pz_cl (by omega), (T _ h).2.2.2.2, bit, pz_negL, pz_xorL, pz_andL, OW_rm (by omega) hc]
      obtain ⟨ow1, o1, o2⟩ := h1
      have h2 : ∃ ow2 : Nat → Int64, (∀ t, t < s 2 → ow2 t = lN (OW (un s (36 + c) x) t)) ∧ X5_setOwner_J51 fu (nI (s 0)) (nI (s 1)) (nI (s 2)) ow1 (nI c) v (eI (s (36 + c))) = some (eI (s (36 + c)), ow2) := by
        rw [X5_setOwner_J51]
        rcases hx with h | h
        · refine ⟨ow1, fun t ht => ?_, by rw [if_pos (by rw [hv, h]; rfl), X5_setOwner_J68]⟩
          rw [o1 t ht, h]
        · refine ⟨vp_updL ow1 x (lN (OW (un s (36 + c) x) x)), fun t ht => ?_, ?_⟩
          · by_cases g : t = x
            · rw [g, pk_uLs]
            · have q := OW_not (s := un s (36 + c) 65535) (x := x) (c := c) (t := t) (by omega) (by rw [un_eq rfl]; omega)
              rw [un_un] at q
              rw [pk_uLn g, o1 t ht, q]
          · have q := OW_add (s := un s (36 + c) 65535) (x := x) hc
            rw [un_un] at q
            rw [hv, eI_of (n := x) (by omega), if_neg (by rw [pz_c1, pz_eqm (by omega) (by decide) (by decide)]; exact id), pz_rd _ _ (by omega) (by omega), pz_ck _ (by omega) (by omega), pz_cl (by omega), o1 x h, bit, pz_orL, q, X5_setOwner_J68]
      obtain ⟨ow2, p1, p2⟩ := h2
      have ne : ∀ j, j < 36 → un s (36 + c) x j = s j := fun j hj => un_ne (by omega)
      rw [o2, p2, pz_bind]
      dsimp only
      rw [ca_ok ok, pz_bind, X8_putOwner_J24, pz_c36, nI_add, pz_rd _ _ (by omega) (by omega), pz_ck _ (by omega) (by omega), pz_cl (by omega), e, pz_bind]
      dsimp only
      rw [t_ok ok, pz_bind]
      refine ⟨_, _, un s (36 + c) x, rfl, rfl, rfl, hS, Iv_own I hc hx, SR_un R hv, ⟨⟨?_, ?_, ?_, ?_, ?_, ?_⟩, fun t ht => ?_, LR_of L (fun j _ _ => un_ne (by omega)), HR_of I S (ne 3 (by omega)) (fun j _ _ => un_ne (by omega)), DR_of I D (ne 4 (by omega)) (fun j _ _ => un_ne (by omega))⟩⟩
      · rw [ne _ (by omega)]
      · rw [ne _ (by omega)]
      · rw [ne _ (by omega)]
      · rw [ne _ (by omega)]
      · rw [ne _ (by omega)]
      · rw [ne _ (by omega)]
      · rw [ne _ (by omega)] at ht
        obtain ⟨g1, g2, g3, g4, g5⟩ := T t ht
        rw [ne _ (by omega), ne _ (by omega), ne _ (by omega), ne _ (by omega)]
        exact ⟨g1, g2, g3, g4, p1 t ht⟩
    by_cases hm : v2 = -1
    · rw [if_pos hm, if_pos hm]
      exact good 65535 v2 (Or.inl rfl) hm
    · rw [if_neg hm, if_neg hm, x5_isTenant i2, pz_bind, x8_isMan I R, pz_bind]
      by_cases hl : vN v2 < s 2
      · have ev2 := vN_e (v := v2) (by omega)
        rw [decide_eq_true hl, if_neg b_t, if_neg b_t]
        exact good (vN v2) v2 (Or.inr hl) (by rw [eI_of (by omega)]; exact ev2)
      · rw [decide_eq_false hl, if_pos b_f, if_pos b_f]
        exact bad
theorem LI_flip {h c x : Nat} (hc : c < 60) (hx : x ≤ 1) (ho : s (96 + 60 * h + c) ≤ 1) (hn : s (96 + 60 * h + c) ≠ x) : LI s h ^^^ (1 <<< c) = LI (un s (96 + 60 * h + c) x) h := by
  apply mkN_eq
  · apply Nat.xor_lt_two_pow (LI_lt s h)
    rw [Nat.shiftLeft_eq, Nat.one_mul]
    exact Nat.pow_lt_pow_right (by decide) hc
  · intro i hi
    rw [Nat.testBit_xor, one_bit, LI_bit hi]
    by_cases e : i = c
    · rw [un_eq (by omega), decide_eq_true e, e]
      rcases (show x = 0 ∨ x = 1 by omega) with g | g
      · rw [g, decide_eq_true (show s (96 + 60 * h + c) = 1 by omega)]; rfl
      · rw [g, decide_eq_false (show ¬ s (96 + 60 * h + c) = 1 by omega)]; rfl
    · rw [un_ne (by omega), decide_eq_false e]; simp
theorem Iv_lit (I : Iv s) {h c x : Nat} (hh : h < 4) (hc : c < 60) (hx : x ≤ 1) : Iv (un s (96 + 60 * h + c) x) := by
  obtain ⟨h0, h1, h2, h3, h4, h5, h6, h7, h8, h9, h10⟩ := I
  have e : ∀ j, j < 96 → un s (96 + 60 * h + c) x j = s j := fun j hj => un_ne (by omega)
  have eb : ∀ d, boxB (un s (96 + 60 * h + c) x) d = boxB s d := fun d => by unfold boxB; rw [e 0 (by omega), e 1 (by omega)]
  unfold Iv
  rw [e 0 (by omega), e 1 (by omega), e 2 (by omega), e 3 (by omega), e 4 (by omega), e 5 (by omega)]
  refine ⟨h0, h1, h2, h3, h4, h5, fun t ht => ?_, fun d hd => ?_, fun k hk => ?_, fun k hk => ?_, fun r hr => ?_⟩
  · have := h6 t ht
    rw [un_ne (by omega), un_ne (by omega), un_ne (by omega), un_ne (by omega)]
    exact this
  · rw [un_ne (by omega)]; exact h7 d hd
  · by_cases g : 96 + k = 96 + 60 * h + c
    · rw [un_eq g]; exact hx
    · rw [un_ne (by omega)]; exact h8 k hk
  · rw [un_ne (by omega)]; exact h9 k hk
  · rw [un_ne (by omega), un_ne (by omega), un_ne (by omega), eb]
    exact h10 r hr
theorem q_lit {q_wall_wide : Int32} {q_wall_high : Int32} {q_wall_slackNow : Int32} {q_wall_tenants : Int32} {q_wall_letters : Int32} {q_wall_readings : Int32} {q_wall_kinds : Nat → Int32} {q_wall_painOf : Nat → Int32} {q_wall_payFor : Nat → Int32} {q_wall_refused : Nat → Int32} {q_wall_owned : Nat → Int64} {q_wall_litIn : Nat → Int64} {q_wall_shapes : Nat → Int32} {q_wall_readAt : Nat → Int32} {q_wall_meant : Nat → Int32} {q_wall_readSo : Nat → Int32} {u_st u_refused u_ones : Nat → Int32} {q_wereBad q_wereNo q_wereFull : Int32} (v1 : Int32) (v2 : Int32) (v3 : Int32) (hf : 5000 ≤ fu) (I : Iv s) (W : WR q_wall_wide q_wall_high q_wall_slackNow q_wall_tenants q_wall_letters q_wall_readings q_wall_kinds q_wall_painOf q_wall_payFor q_wall_refused q_wall_owned q_wall_litIn q_wall_shapes q_wall_readAt q_wall_meant q_wall_readSo s) (R : SR u_st s) (hS : SS u_refused q_wereBad q_wereNo q_wereFull) (h3 : v3 = nI 0 ∨ v3 = nI 1) : ∃ r u s2, f_X7_lit fu q_wereBad q_wereNo q_wereFull q_wall_wide q_wall_high q_wall_litIn v1 v2 v3 = some r ∧ f_X8_lit fu u_st u_refused v1 v2 v3 = some u ∧ r.1 = u.1 ∧ SS u.2.2 r.2.1 r.2.2.1 r.2.2.2.1 ∧ Iv s2 ∧ SR u.2.1 s2 ∧ WR q_wall_wide q_wall_high q_wall_slackNow q_wall_tenants q_wall_letters q_wall_readings q_wall_kinds q_wall_painOf q_wall_payFor q_wall_refused q_wall_owned r.2.2.2.2 q_wall_shapes q_wall_readAt q_wall_meant q_wall_readSo s2 := by
  have W0 := W
  obtain ⟨⟨rfl, rfl, rfl, rfl, rfl, rfl⟩, T, L, S, D⟩ := W
  have i0 := I.1
  have i1 := I.2.1
  have hJ : f_X8_lit fu u_st u_refused v1 v2 v3 = X8_lit_J13 fu u_st u_refused v3 v2 v1 := by
    rw [f_X8_lit]
    rcases h3 with e | e
    · rw [if_pos (by rw [e]; rfl), e]; rfl
    · rw [if_neg (by rw [e]; decide), e]; rfl
  obtain ⟨x, hx, rfl⟩ : ∃ x, x ≤ 1 ∧ v3 = nI x := by
    rcases h3 with e | e
    · exact ⟨0, by omega, e⟩
    · exact ⟨1, by omega, e⟩
  rw [hJ, f_X7_lit, X8_lit_J13, f_X5_setLit, f_X8_putLight, x7_isHour, pz_bind, x8_isHour, pz_bind]
  have bad : ∃ r u s2, ((X5_setLit_J15 fu (nI (s 0)) (nI (s 1)) q_wall_litIn).bind fun t8 => (f_X7_counted fu q_wereBad q_wereNo q_wereFull t8.1).bind fun t11 => some (t11.1, t11.2.1, t11.2.2.1, t11.2.2.2, t8.2)) = some r ∧ ((X8_putLight_J15 fu u_st).bind fun t13 => (f_X8_told fu u_refused t13.1).bind fun t16 => some (t16.1, t13.2, t16.2)) = some u ∧ r.1 = u.1 ∧ SS u.2.2 r.2.1 r.2.2.1 r.2.2.2.1 ∧ Iv s2 ∧ SR u.2.1 s2 ∧ WR (nI (s 0)) (nI (s 1)) (nI (s 5)) (nI (s 2)) (nI (s 3)) (nI (s 4)) q_wall_kinds q_wall_painOf q_wall_payFor q_wall_refused q_wall_owned r.2.2.2.2 q_wall_shapes q_wall_readAt q_wall_meant q_wall_readSo s2 := by
    rw [X5_setLit_J15, pz_bind, X8_putLight_J15, pz_bind]
    dsimp only
    rw [c_bad, pz_bind, t_bad, pz_bind]
    exact ⟨_, _, s, rfl, rfl, rfl, SS_bad hS, I, R, W0⟩
  by_cases hh : vN v1 < 4
  · rw [decide_eq_true hh, if_neg b_t, if_neg b_t, x5_isWindow I, pz_bind, x8_isWindow I R, pz_bind]
    cases hw : winB s (vN v2)
    · rw [if_pos b_f, if_pos b_f]
      exact bad
    · rw [if_neg b_t, if_neg b_t]
      have hc : vN v2 < 60 := by
        have := of_decide_eq_true hw
        omega
      have ev := vN_e (v := v1) (by omega)
      have ev2 := vN_e (v := v2) (by omega)
      generalize vN v1 = h at *
      generalize vN v2 = c at *
      subst ev
      subst ev2
      have il := I.2.2.2.2.2.2.2.2.1 (60 * h + c) (by omega)
      rw [← Nat.add_assoc] at il
      have e := R (96 + 60 * h + c) (by omega)
      rw [x5_isLit L hh hc, pz_bind, pz_let, pz_c60, pk_mul, pz_c96, nI_add, nI_add, pz_rd u_st _ (by omega) (by omega), e, eI_of (n := s (96 + 60 * h + c)) (by omega)]
      have eb : bI (decide (s (96 + 60 * h + c) = 1)) = nI (s (96 + 60 * h + c)) := by
        rcases (show s (96 + 60 * h + c) = 0 ∨ s (96 + 60 * h + c) = 1 by omega) with g | g <;> rw [g] <;> rfl
      rw [eb]
      by_cases g : s (96 + 60 * h + c) = x
      · rw [if_pos (by rw [g]), if_pos (by rw [g]), pz_bind, pz_bind]
        dsimp only
        rw [c_no, pz_bind, t_no, pz_bind]
        exact ⟨_, _, s, rfl, rfl, rfl, SS_no hS, I, R, W0⟩
      · have ok : (∃ k, k < 2 ^ 31 ∧ nI 1 = nI k) ∨ nI 1 = -nI 1 := Or.inl ⟨1, by omega, rfl⟩
        have bit : ((1 : Int64) <<< ((nI c).toInt64 &&& 63)) = lN (1 <<< c) := by
          rw [pz_L63, pz_63 (by omega), pz_L1, pz_shlL _ (by omega)]
        have ne : ∀ j, j < 96 → un s (96 + 60 * h + c) x j = s j := fun j hj => un_ne (by omega)
        rw [if_neg (by rw [pz_eq (by omega) (by omega)]; exact g), if_neg (by rw [pz_eq (by omega) (by omega)]; exact g), pz_rd _ _ hh (by omega), pz_ck _ hh (by omega), pz_ck _ (by omega) (by omega), L h hh, bit, pz_xorL, LI_flip hc hx il g, pz_cl (by omega), pz_cl (by omega), pz_bind, pz_bind]
        dsimp only
        rw [show f_X7_counted fu q_wereBad q_wereNo q_wereFull 1 = _ from c_ok ok, pz_bind, show f_X8_told fu u_refused 1 = _ from t_ok ok, pz_bind]
        refine ⟨_, _, un s (96 + 60 * h + c) x, rfl, rfl, rfl, hS, Iv_lit I hh hc hx, SR_un R (by rw [eI_of (by omega)]), ⟨⟨?_, ?_, ?_, ?_, ?_, ?_⟩, TR_of I T (ne 2 (by omega)) (fun j _ _ => un_ne (by omega)) (fun j _ _ => un_ne (by omega)), fun k hk => ?_, HR_of I S (ne 3 (by omega)) (fun j _ _ => un_ne (by omega)), DR_of I D (ne 4 (by omega)) (fun j _ _ => un_ne (by omega))⟩⟩
        · rw [ne _ (by omega)]
        · rw [ne _ (by omega)]
        · rw [ne _ (by omega)]
        · rw [ne _ (by omega)]
        · rw [ne _ (by omega)]
        · rw [ne _ (by omega)]
        · show vp_updL q_wall_litIn h _ k = _
          by_cases g2 : k = h
          · rw [g2, pk_uLs]
          · rw [pk_uLn g2, L k hk]
            exact congrArg lN (mkN_cong (fun i hi => by rw [un_ne (by omega)]))
  · rw [decide_eq_false hh, if_pos b_f, if_pos b_f]
    exact bad
end
