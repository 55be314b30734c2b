/-! IMAGES: kept and taken back -/
theorem cpy_in {α : Type} {f g : Nat → α} {n k : Nat} (h : k < n) : va_cpy f g 0 0 n k = f k := by
  unfold va_cpy
  rw [if_pos (by omega), Nat.sub_zero, Nat.zero_add]
def KR (i : Nat) (flag : Int32) (kept isKept : Nat → Int32) (wd hi sl te lt re : Int32) (kinds painOf payFor refused : Nat → Int32) (owned litIn : Nat → Int64) (shapes readAt meant readSo : Nat → Int32) : Prop := ∃ b : Bool, flag = bI b ∧ isKept i = bI b ∧ (b = true → ∃ z, Iv z ∧ (∀ k, k < 354 → kept (354 * i + k) = eI (z k)) ∧ WR wd hi sl te lt re kinds painOf payFor refused owned litIn shapes readAt meant readSo z)
section
variable {fu : Nat} {s : Nat → Nat}
theorem WR_cpy {wd hi sl te lt re : Int32} {kinds painOf payFor refused : Nat → Int32} {owned litIn : Nat → Int64} {shapes readAt meant readSo : Nat → Int32} {a b c d : Nat → Int32} {e f : Nat → Int64} {g h i j : Nat → Int32} (I : Iv s) (W : WR wd hi sl te lt re kinds painOf payFor refused owned litIn shapes readAt meant readSo s) : WR wd hi sl te lt re (va_cpy kinds a 0 0 6) (va_cpy painOf b 0 0 6) (va_cpy payFor c 0 0 6) (va_cpy refused d 0 0 6) (va_cpy owned e 0 0 6) (va_cpy litIn f 0 0 4) (va_cpy shapes g 0 0 6) (va_cpy readAt h 0 0 6) (va_cpy meant i 0 0 6) (va_cpy readSo j 0 0 6) s := by
  obtain ⟨H, T, L, S, D⟩ := W
  have i2 := I.2.2.1
  have i3 := I.2.2.2.1
  have i4 := I.2.2.2.2.1
  refine ⟨H, fun t ht => ?_, fun k hk => ?_, fun k hk => ?_, fun r hr => ?_⟩
  · rw [cpy_in (by omega), cpy_in (by omega), cpy_in (by omega), cpy_in (by omega), cpy_in (by omega)]
    exact T t ht
  · rw [cpy_in (by omega)]; exact L k hk
  · rw [cpy_in (by omega)]; exact S k hk
  · rw [cpy_in (by omega), cpy_in (by omega), cpy_in (by omega)]
    exact D r hr
theorem x8_imageOn {st kept isKept rf : Nat → Int32} {i : Nat} (hf : 5000 ≤ fu) (hi : i < 2) : ∃ a, X8_image_L18 fu st isKept rf (nI i) fu kept 0 = some (1, a, upd isKept i (nI 1), rf) ∧ (∀ k, k < 354 → a (354 * i + k) = st k) ∧ ∀ k, (k < 354 * i ∨ 354 * i + 354 ≤ k) → a k = kept k := by
  have main := pz_rel (fun n k (a : Nat → Int32) => X8_image_L18 fu st isKept rf (nI i) n a (nI k)) (fun k a => (∀ j, j < k → a (354 * i + j) = st j) ∧ ∀ j, (j < 354 * i ∨ 354 * i + 354 ≤ j) → a j = kept j) 354 (fun r => ∃ a, r = (1, a, upd isKept i (nI 1), rf) ∧ (∀ k, k < 354 → a (354 * i + k) = st k) ∧ ∀ k, (k < 354 * i ∨ 354 * i + 354 ≤ k) → a k = kept k) (fun n k a hk ha => ?_) (fun n a ha => ?_) fu 0 kept (by omega) (by omega) ⟨fun j hj => absurd hj (Nat.not_lt_zero j), fun j _ => rfl⟩
  · obtain ⟨r, e1, a, e2, e3⟩ := main
    exact ⟨a, by rw [← e2]; exact e1, e3⟩
  · right
    refine ⟨upd a (354 * i + k) (st k), ⟨fun j hj => ?_, fun j hj => ?_⟩, ?_⟩
    · by_cases g : j = k
      · rw [g, pk_us]
      · rw [pk_un (by omega)]; exact ha.1 j (by omega)
    · rw [pk_un (by omega)]; exact ha.2 j hj
    · try simp only
      rw [X8_image_L18]
      generalize X8_image_L18 fu st isKept rf (nI i) n = rec
      rw [if_neg (by rw [pz_c354, pz_le (by decide) (by omega)]; omega), pz_rd _ _ (by omega) (by omega), pz_c354, pk_mul, nI_add, pz_ck _ (by omega) (by omega), pz_cl (by omega), nI_1]
  · try simp only
    rw [X8_image_L18, if_pos (by decide +kernel), pz_ck _ (by omega) (by omega), pz_cl (by omega), nb1]
    exact ⟨_, rfl, a, rfl, ha⟩
theorem x8_fromOn {st kept isKept rf : Nat → Int32} {i : Nat} (hf : 5000 ≤ fu) (hi : i < 2) : ∃ a, X8_from_L34 fu kept isKept rf (nI i) fu st 0 = some (1, a, rf) ∧ ∀ k, k < 354 → a k = kept (354 * i + k) := by
  have main := pz_rel (fun n k (a : Nat → Int32) => X8_from_L34 fu kept isKept rf (nI i) n a (nI k)) (fun k a => ∀ j, j < k → a j = kept (354 * i + j)) 354 (fun r => ∃ a, r = (1, a, rf) ∧ ∀ k, k < 354 → a k = kept (354 * i + k)) (fun n k a hk ha => ?_) (fun n a ha => ?_) fu 0 st (by omega) (by omega) (fun j hj => absurd hj (Nat.not_lt_zero j))
  · obtain ⟨r, e1, a, e2, e3⟩ := main
    exact ⟨a, by rw [← e2]; exact e1, e3⟩
  · right
    refine ⟨upd a k (kept (354 * i + k)), fun j hj => ?_, ?_⟩
    · by_cases g : j = k
      · rw [g, pk_us]
      · rw [pk_un g, ha j (by omega)]
    · try simp only
      rw [X8_from_L34]
      generalize X8_from_L34 fu kept isKept rf (nI i) n = rec
      rw [if_neg (by rw [pz_c354, pz_le (by decide) (by omega)]; omega), pz_c354, pk_mul, nI_add, pz_rd _ _ (by omega) (by omega), pz_ck _ (by omega) (by omega), pz_cl (by omega), nI_1]
  · try simp only
    rw [X8_from_L34, if_pos (by decide +kernel)]
    exact ⟨_, rfl, a, rfl, ha⟩
theorem q_image {q_wall_wide : Int32} {q_wall_high : Int32} {q_wall_slackNow : Int32} {q_wall_tenants : Int32} {q_wall_letters : Int32} {q_wall_readings : Int32} {q_wall_kinds : Nat → Int32} {q_wall_painOf : Nat → Int32} {q_wall_payFor : Nat → Int32} {q_wall_refused : Nat → Int32} {q_wall_owned : Nat → Int64} {q_wall_litIn : Nat → Int64} {q_wall_shapes : Nat → Int32} {q_wall_readAt : Nat → Int32} {q_wall_meant : Nat → Int32} {q_wall_readSo : Nat → Int32} {u_st u_refused u_ones : Nat → Int32} {q_wereBad q_wereNo q_wereFull : Int32} {q_firstKept : Int32} {q_secondKept : Int32} {q_firstImage_wide : Int32} {q_firstImage_high : Int32} {q_firstImage_slackNow : Int32} {q_firstImage_tenants : Int32} {q_firstImage_letters : Int32} {q_firstImage_readings : Int32} {q_firstImage_kinds : Nat → Int32} {q_firstImage_painOf : Nat → Int32} {q_firstImage_payFor : Nat → Int32} {q_firstImage_refused : Nat → Int32} {q_firstImage_owned : Nat → Int64} {q_firstImage_litIn : Nat → Int64} {q_firstImage_shapes : Nat → Int32} {q_firstImage_readAt : Nat → Int32} {q_firstImage_meant : Nat → Int32} {q_firstImage_readSo : Nat → Int32} {q_secondImage_wide : Int32} {q_secondImage_high : Int32} {q_secondImage_slackNow : Int32} {q_secondImage_tenants : Int32} {q_secondImage_letters : Int32} {q_secondImage_readings : Int32} {q_secondImage_kinds : Nat → Int32} {q_secondImage_painOf : Nat → Int32} {q_secondImage_payFor : Nat → Int32} {q_secondImage_refused : Nat → Int32} {q_secondImage_owned : Nat → Int64} {q_secondImage_litIn : Nat → Int64} {q_secondImage_shapes : Nat → Int32} {q_secondImage_readAt : Nat → Int32} {q_secondImage_meant : Nat → Int32} {q_secondImage_readSo : Nat → Int32} {u_kept : Nat → Int32} {u_isKept : Nat → Int32} (v1 : Int32) (hf : 5000 ≤ fu) (I : Iv s) (W : WR q_wall_wide q_wall_high q_wall_slackNow q_wall_tenants q_wall_letters q_wall_readings q_wall_kinds q_wall_painOf q_wall_payFor q_wall_refused q_wall_owned q_wall_litIn q_wall_shapes q_wall_readAt q_wall_meant q_wall_readSo s) (R : SR u_st s) (hS : SS u_refused q_wereBad q_wereNo q_wereFull) (K0 : KR 0 q_firstKept u_kept u_isKept q_firstImage_wide q_firstImage_high q_firstImage_slackNow q_firstImage_tenants q_firstImage_letters q_firstImage_readings q_firstImage_kinds q_firstImage_painOf q_firstImage_payFor q_firstImage_refused q_firstImage_owned q_firstImage_litIn q_firstImage_shapes q_firstImage_readAt q_firstImage_meant q_firstImage_readSo) (K1 : KR 1 q_secondKept u_kept u_isKept q_secondImage_wide q_secondImage_high q_secondImage_slackNow q_secondImage_tenants q_secondImage_letters q_secondImage_readings q_secondImage_kinds q_secondImage_painOf q_secondImage_payFor q_secondImage_refused q_secondImage_owned q_secondImage_litIn q_secondImage_shapes q_secondImage_readAt q_secondImage_meant q_secondImage_readSo) : ∃ r u, f_X7_image fu q_firstKept q_secondKept q_wereBad q_wereNo q_wereFull q_wall_wide q_wall_high q_wall_slackNow q_wall_tenants q_wall_letters q_wall_readings q_wall_kinds q_wall_painOf q_wall_payFor q_wall_refused q_wall_owned q_wall_litIn q_wall_shapes q_wall_readAt q_wall_meant q_wall_readSo q_firstImage_wide q_firstImage_high q_firstImage_slackNow q_firstImage_tenants q_firstImage_letters q_firstImage_readings q_firstImage_kinds q_firstImage_painOf q_firstImage_payFor q_firstImage_refused q_firstImage_owned q_firstImage_litIn q_firstImage_shapes q_firstImage_readAt q_firstImage_meant q_firstImage_readSo q_secondImage_wide q_secondImage_high q_secondImage_slackNow q_secondImage_tenants q_secondImage_letters q_secondImage_readings q_secondImage_kinds q_secondImage_painOf q_secondImage_payFor q_secondImage_refused q_secondImage_owned q_secondImage_litIn q_secondImage_shapes q_secondImage_readAt q_secondImage_meant q_secondImage_readSo v1 = some r ∧ f_X8_image fu u_st u_kept u_isKept u_refused v1 = some u ∧ r.1 = u.1 ∧ SS u.2.2.2 r.2.2.2.1 r.2.2.2.2.1 r.2.2.2.2.2.1 ∧ KR 0 r.2.1 u.2.1 u.2.2.1 r.2.2.2.2.2.2.1 r.2.2.2.2.2.2.2.1 r.2.2.2.2.2.2.2.2.1 r.2.2.2.2.2.2.2.2.2.1 r.2.2.2.2.2.2.2.2.2.2.1 r.2.2.2.2.2.2.2.2.2.2.2.1 r.2.2.2.2.2.2.2.2.2.2.2.2.1 r.2.2.2.2.2.2.2.2.2.2.2.2.2.1 r.2.2.2.2.2.2.2.2.2.2.2.2.2.2.1 r.2.2.2.2.2.2.2.2.2.2.2.2.2.2.2.1 r.2.2.2.2.2.2.2.2.2.2.2.2.2.2.2.2.1 r.2.2.2.2.2.2.2.2.2.2.2.2.2.2.2.2.2.1 r.2.2.2.2.2.2.2.2.2.2.2.2.2.2.2.2.2.2.1 r.2.2.2.2.2.2.2.2.2.2.2.2.2.2.2.2.2.2.2.1 r.2.2.2.2.2.2.2.2.2.2.2.2.2.2.2.2.2.2.2.2.1 r.2.2.2.2.2.2.2.2.2.2.2.2.2.2.2.2.2.2.2.2.2.1 ∧ KR 1 r.2.2.1 u.2.1 u.2.2.1 r.2.2.2.2.2.2.2.2.2.2.2.2.2.2.2.2.2.2.2.2.2.2.1 r.2.2.2.2.2.2.2.2.2.2.2.2.2.2.2.2.2.2.2.2.2.2.2.1 r.2.2.2.2.2.2.2.2.2.2.2.2.2.2.2.2.2.2.2.2.2.2.2.2.1 r.2.2.2.2.2.2.2.2.2.2.2.2.2.2.2.2.2.2.2.2.2.2.2.2.2.1 r.2.2.2.2.2.2.2.2.2.2.2.2.2.2.2.2.2.2.2.2.2.2.2.2.2.2.1 r.2.2.2.2.2.2.2.2.2.2.2.2.2.2.2.2.2.2.2.2.2.2.2.2.2.2.2.1 r.2.2.2.2.2.2.2.2.2.2.2.2.2.2.2.2.2.2.2.2.2.2.2.2.2.2.2.2.1 r.2.2.2.2.2.2.2.2.2.2.2.2.2.2.2.2.2.2.2.2.2.2.2.2.2.2.2.2.2.1 r.2.2.2.2.2.2.2.2.2.2.2.2.2.2.2.2.2.2.2.2.2.2.2.2.2.2.2.2.2.2.1 r.2.2.2.2.2.2.2.2.2.2.2.2.2.2.2.2.2.2.2.2.2.2.2.2.2.2.2.2.2.2.2.1 r.2.2.2.2.2.2.2.2.2.2.2.2.2.2.2.2.2.2.2.2.2.2.2.2.2.2.2.2.2.2.2.2.1 r.2.2.2.2.2.2.2.2.2.2.2.2.2.2.2.2.2.2.2.2.2.2.2.2.2.2.2.2.2.2.2.2.2.1 r.2.2.2.2.2.2.2.2.2.2.2.2.2.2.2.2.2.2.2.2.2.2.2.2.2.2.2.2.2.2.2.2.2.2.1 r.2.2.2.2.2.2.2.2.2.2.2.2.2.2.2.2.2.2.2.2.2.2.2.2.2.2.2.2.2.2.2.2.2.2.2.1 r.2.2.2.2.2.2.2.2.2.2.2.2.2.2.2.2.2.2.2.2.2.2.2.2.2.2.2.2.2.2.2.2.2.2.2.2.1 r.2.2.2.2.2.2.2.2.2.2.2.2.2.2.2.2.2.2.2.2.2.2.2.2.2.2.2.2.2.2.2.2.2.2.2.2.2 := by
  rw [f_X7_image, f_X8_image, show f_X8_in fu v1 0 1 = _ from x8_in (lo := 0) (hi := 1) (by decide) (by decide) v1, pz_bind]
  have bad : ∃ r u, X7_image_J9 fu q_firstKept q_secondKept q_wereBad q_wereNo q_wereFull q_wall_wide q_wall_high q_wall_slackNow q_wall_tenants q_wall_letters q_wall_readings q_wall_kinds q_wall_painOf q_wall_payFor q_wall_refused q_wall_owned q_wall_litIn q_wall_shapes q_wall_readAt q_wall_meant q_wall_readSo q_firstImage_wide q_firstImage_high q_firstImage_slackNow q_firstImage_tenants q_firstImage_letters q_firstImage_readings q_firstImage_kinds q_firstImage_painOf q_firstImage_payFor q_firstImage_refused q_firstImage_owned q_firstImage_litIn q_firstImage_shapes q_firstImage_readAt q_firstImage_meant q_firstImage_readSo q_secondImage_wide q_secondImage_high q_secondImage_slackNow q_secondImage_tenants q_secondImage_letters q_secondImage_readings q_secondImage_kinds q_secondImage_painOf q_secondImage_payFor q_secondImage_refused q_secondImage_owned q_secondImage_litIn q_secondImage_shapes q_secondImage_readAt q_secondImage_meant q_secondImage_readSo = some r ∧ ((f_X8_told fu u_refused (-2)).bind fun t12 => some (t12.1, u_kept, u_isKept, t12.2)) = some u ∧ r.1 = u.1 ∧ SS u.2.2.2 r.2.2.2.1 r.2.2.2.2.1 r.2.2.2.2.2.1 ∧ KR 0 r.2.1 u.2.1 u.2.2.1 r.2.2.2.2.2.2.1 r.2.2.2.2.2.2.2.1 r.2.2.2.2.2.2.2.2.1 r.2.2.2.2.2.2.2.2.2.1 r.2.2.2.2.2.2.2.2.2.2.1 r.2.2.2.2.2.2.2.2.2.2.2.1 r.2.2.2.2.2.2.2.2.2.2.2.2.1 r.2.2.2.2.2.2.2.2.2.2.2.2.2.1 r.2.2.2.2.2.2.2.2.2.2.2.2.2.2.1 r.2.2.2.2.2.2.2.2.2.2.2.2.2.2.2.1 r.2.2.2.2.2.2.2.2.2.2.2.2.2.2.2.2.1 r.2.2.2.2.2.2.2.2.2.2.2.2.2.2.2.2.2.1 r.2.2.2.2.2.2.2.2.2.2.2.2.2.2.2.2.2.2.1 r.2.2.2.2.2.2.2.2.2.2.2.2.2.2.2.2.2.2.2.1 r.2.2.2.2.2.2.2.2.2.2.2.2.2.2.2.2.2.2.2.2.1 r.2.2.2.2.2.2.2.2.2.2.2.2.2.2.2.2.2.2.2.2.2.1 ∧ KR 1 r.2.2.1 u.2.1 u.2.2.1 r.2.2.2.2.2.2.2.2.2.2.2.2.2.2.2.2.2.2.2.2.2.2.1 r.2.2.2.2.2.2.2.2.2.2.2.2.2.2.2.2.2.2.2.2.2.2.2.1 r.2.2.2.2.2.2.2.2.2.2.2.2.2.2.2.2.2.2.2.2.2.2.2.2.1 r.2.2.2.2.2.2.2.2.2.2.2.2.2.2.2.2.2.2.2.2.2.2.2.2.2.1 r.2.2.2.2.2.2.2.2.2.2.2.2.2.2.2.2.2.2.2.2.2.2.2.2.2.2.1 r.2.2.2.2.2.2.2.2.2.2.2.2.2.2.2.2.2.2.2.2.2.2.2.2.2.2.2.1 r.2.2.2.2.2.2.2.2.2.2.2.2.2.2.2.2.2.2.2.2.2.2.2.2.2.2.2.2.1 r.2.2.2.2.2.2.2.2.2.2.2.2.2.2.2.2.2.2.2.2.2.2.2.2.2.2.2.2.2.1 r.2.2.2.2.2.2.2.2.2.2.2.2.2.2.2.2.2.2.2.2.2.2.2.2.2.2.2.2.2.2.1 r.2.2.2.2.2.2.2.2.2.2.2.2.2.2.2.2.2.2.2.2.2.2.2.2.2.2.2.2.2.2.2.1 r.2.2.2.2.2.2.2.2.2.2.2.2.2.2.2.2.2.2.2.2.2.2.2.2.2.2.2.2.2.2.2.2.1 r.2.2.2.2.2.2.2.2.2.2.2.2.2.2.2.2.2.2.2.2.2.2.2.2.2.2.2.2.2.2.2.2.2.1 r.2.2.2.2.2.2.2.2.2.2.2.2.2.2.2.2.2.2.2.2.2.2.2.2.2.2.2.2.2.2.2.2.2.2.1 r.2.2.2.2.2.2.2.2.2.2.2.2.2.2.2.2.2.2.2.2.2.2.2.2.2.2.2.2.2.2.2.2.2.2.2.1 r.2.2.2.2.2.2.2.2.2.2.2.2.2.2.2.2.2.2.2.2.2.2.2.2.2.2.2.2.2.2.2.2.2.2.2.2.1 r.2.2.2.2.2.2.2.2.2.2.2.2.2.2.2.2.2.2.2.2.2.2.2.2.2.2.2.2.2.2.2.2.2.2.2.2.2 := by
    rw [X7_image_J9, c_bad, pz_bind, t_bad, pz_bind]
    exact ⟨_, _, rfl, rfl, rfl, SS_bad hS, K0, K1⟩
  rcases rngI v1 (lo := 0) (hi := 1) (by decide) (by decide) with ⟨a1, a2, a3, -⟩ | ⟨a1, a2⟩
  · rw [decide_eq_true a1, if_neg b_t, if_neg (show ¬ v1 < 0 from a2)]
    have ev := vN_e (v := v1) (by omega)
    generalize vN v1 = i at *
    subst ev
    rw [if_pos (show nI i < 2 by rw [pz_c2, pz_lt (by omega) (by decide)]; omega)]
    obtain ⟨a, e1, e2, e3⟩ := x8_imageOn (fu := fu) (st := u_st) (kept := u_kept) (isKept := u_isKept) (rf := u_refused) (i := i) hf (by omega)
    rw [e1]
    rcases (show i = 0 ∨ i = 1 by omega) with g | g
    · subst g
      rw [if_pos (show nI 0 = 0 from rfl), f_X5_beLike, pz_bind, X7_image_J55]
      refine ⟨_, _, rfl, rfl, rfl, hS, ⟨true, rfl, (pk_us : upd u_isKept 0 (nI 1) 0 = nI 1), fun _ => ⟨s, I, fun k hk => (e2 k hk).trans (R k hk), WR_cpy I W⟩⟩, ?_⟩
      obtain ⟨b, k1, k2, k3⟩ := K1
      refine ⟨b, k1, (show upd u_isKept 0 (nI 1) 1 = bI b from (pk_un (by decide)).trans k2), fun hb => ?_⟩
      obtain ⟨z, z1, z2, z3⟩ := k3 hb
      exact ⟨z, z1, fun k hk => (e3 _ (by omega)).trans (z2 k hk), z3⟩
    · subst g
      rw [if_neg (by decide), f_X5_beLike, pz_bind, X7_image_J55]
      refine ⟨_, _, rfl, rfl, rfl, hS, ?_, ⟨true, rfl, (pk_us : upd u_isKept 1 (nI 1) 1 = nI 1), fun _ => ⟨s, I, fun k hk => (e2 k hk).trans (R k hk), WR_cpy I W⟩⟩⟩
      obtain ⟨b, k1, k2, k3⟩ := K0
      refine ⟨b, k1, (show upd u_isKept 1 (nI 1) 0 = bI b from (pk_un (by decide)).trans k2), fun hb => ?_⟩
      obtain ⟨z, z1, z2, z3⟩ := k3 hb
      exact ⟨z, z1, fun k hk => (e3 _ (by omega)).trans (z2 k hk), z3⟩
  · rw [decide_eq_false a1, if_pos b_f]
    rcases a2 with g | ⟨g1, g2, -⟩
    · rw [if_pos (show v1 < 0 from g)]
      exact bad
    · rw [if_neg (show ¬ v1 < 0 from g1), if_neg (show ¬ v1 < 2 from fun q => g2 (by
        obtain ⟨k, hk, rfl⟩ := nI_of g1
        rw [pz_c2, pz_lt hk (by decide)] at q
        rw [pz_le hk (by decide)]; omega))]
      exact bad
theorem q_from {q_wall_wide : Int32} {q_wall_high : Int32} {q_wall_slackNow : Int32} {q_wall_tenants : Int32} {q_wall_letters : Int32} {q_wall_readings : Int32} {q_wall_kinds : Nat → Int32} {q_wall_painOf : Nat → Int32} {q_wall_payFor : Nat → Int32} {q_wall_refused : Nat → Int32} {q_wall_owned : Nat → Int64} {q_wall_litIn : Nat → Int64} {q_wall_shapes : Nat → Int32} {q_wall_readAt : Nat → Int32} {q_wall_meant : Nat → Int32} {q_wall_readSo : Nat → Int32} {u_st u_refused u_ones : Nat → Int32} {q_wereBad q_wereNo q_wereFull : Int32} {q_firstKept : Int32} {q_secondKept : Int32} {q_firstImage_wide : Int32} {q_firstImage_high : Int32} {q_firstImage_slackNow : Int32} {q_firstImage_tenants : Int32} {q_firstImage_letters : Int32} {q_firstImage_readings : Int32} {q_firstImage_kinds : Nat → Int32} {q_firstImage_painOf : Nat → Int32} {q_firstImage_payFor : Nat → Int32} {q_firstImage_refused : Nat → Int32} {q_firstImage_owned : Nat → Int64} {q_firstImage_litIn : Nat → Int64} {q_firstImage_shapes : Nat → Int32} {q_firstImage_readAt : Nat → Int32} {q_firstImage_meant : Nat → Int32} {q_firstImage_readSo : Nat → Int32} {q_secondImage_wide : Int32} {q_secondImage_high : Int32} {q_secondImage_slackNow : Int32} {q_secondImage_tenants : Int32} {q_secondImage_letters : Int32} {q_secondImage_readings : Int32} {q_secondImage_kinds : Nat → Int32} {q_secondImage_painOf : Nat → Int32} {q_secondImage_payFor : Nat → Int32} {q_secondImage_refused : Nat → Int32} {q_secondImage_owned : Nat → Int64} {q_secondImage_litIn : Nat → Int64} {q_secondImage_shapes : Nat → Int32} {q_secondImage_readAt : Nat → Int32} {q_secondImage_meant : Nat → Int32} {q_secondImage_readSo : Nat → Int32} {u_kept : Nat → Int32} {u_isKept : Nat → Int32} (v1 : Int32) (hf : 5000 ≤ fu) (I : Iv s) (W : WR q_wall_wide q_wall_high q_wall_slackNow q_wall_tenants q_wall_letters q_wall_readings q_wall_kinds q_wall_painOf q_wall_payFor q_wall_refused q_wall_owned q_wall_litIn q_wall_shapes q_wall_readAt q_wall_meant q_wall_readSo s) (R : SR u_st s) (hS : SS u_refused q_wereBad q_wereNo q_wereFull) (K0 : KR 0 q_firstKept u_kept u_isKept q_firstImage_wide q_firstImage_high q_firstImage_slackNow q_firstImage_tenants q_firstImage_letters q_firstImage_readings q_firstImage_kinds q_firstImage_painOf q_firstImage_payFor q_firstImage_refused q_firstImage_owned q_firstImage_litIn q_firstImage_shapes q_firstImage_readAt q_firstImage_meant q_firstImage_readSo) (K1 : KR 1 q_secondKept u_kept u_isKept q_secondImage_wide q_secondImage_high q_secondImage_slackNow q_secondImage_tenants q_secondImage_letters q_secondImage_readings q_secondImage_kinds q_secondImage_painOf q_secondImage_payFor q_secondImage_refused q_secondImage_owned q_secondImage_litIn q_secondImage_shapes q_secondImage_readAt q_secondImage_meant q_secondImage_readSo) : ∃ r u s2, f_X7_from fu q_firstKept q_secondKept q_wereBad q_wereNo q_wereFull q_wall_wide q_wall_high q_wall_slackNow q_wall_tenants q_wall_letters q_wall_readings q_wall_kinds q_wall_painOf q_wall_payFor q_wall_refused q_wall_owned q_wall_litIn q_wall_shapes q_wall_readAt q_wall_meant q_wall_readSo q_firstImage_wide q_firstImage_high q_firstImage_slackNow q_firstImage_tenants q_firstImage_letters q_firstImage_readings q_firstImage_kinds q_firstImage_painOf q_firstImage_payFor q_firstImage_refused q_firstImage_owned q_firstImage_litIn q_firstImage_shapes q_firstImage_readAt q_firstImage_meant q_firstImage_readSo q_secondImage_wide q_secondImage_high q_secondImage_slackNow q_secondImage_tenants q_secondImage_letters q_secondImage_readings q_secondImage_kinds q_secondImage_painOf q_secondImage_payFor q_secondImage_refused q_secondImage_owned q_secondImage_litIn q_secondImage_shapes q_secondImage_readAt q_secondImage_meant q_secondImage_readSo v1 = some r ∧ f_X8_from fu u_st u_kept u_isKept u_refused v1 = some u ∧ r.1 = u.1 ∧ SS u.2.2 r.2.1 r.2.2.1 r.2.2.2.1 ∧ Iv s2 ∧ SR u.2.1 s2 ∧ WR r.2.2.2.2.1 r.2.2.2.2.2.1 r.2.2.2.2.2.2.1 r.2.2.2.2.2.2.2.1 r.2.2.2.2.2.2.2.2.1 r.2.2.2.2.2.2.2.2.2.1 r.2.2.2.2.2.2.2.2.2.2.1 r.2.2.2.2.2.2.2.2.2.2.2.1 r.2.2.2.2.2.2.2.2.2.2.2.2.1 r.2.2.2.2.2.2.2.2.2.2.2.2.2.1 r.2.2.2.2.2.2.2.2.2.2.2.2.2.2.1 r.2.2.2.2.2.2.2.2.2.2.2.2.2.2.2.1 r.2.2.2.2.2.2.2.2.2.2.2.2.2.2.2.2.1 r.2.2.2.2.2.2.2.2.2.2.2.2.2.2.2.2.2.1 r.2.2.2.2.2.2.2.2.2.2.2.2.2.2.2.2.2.2.1 r.2.2.2.2.2.2.2.2.2.2.2.2.2.2.2.2.2.2.2 s2 := by
  rw [f_X7_from, f_X8_from, show f_X8_in fu v1 0 1 = _ from x8_in (lo := 0) (hi := 1) (by decide) (by decide) v1, pz_bind]
  have bad : ∃ r u s2, X7_from_J9 fu q_firstKept q_secondKept q_wereBad q_wereNo q_wereFull q_wall_wide q_wall_high q_wall_slackNow q_wall_tenants q_wall_letters q_wall_readings q_wall_kinds q_wall_painOf q_wall_payFor q_wall_refused q_wall_owned q_wall_litIn q_wall_shapes q_wall_readAt q_wall_meant q_wall_readSo q_firstImage_wide q_firstImage_high q_firstImage_slackNow q_firstImage_tenants q_firstImage_letters q_firstImage_readings q_firstImage_kinds q_firstImage_painOf q_firstImage_payFor q_firstImage_refused q_firstImage_owned q_firstImage_litIn q_firstImage_shapes q_firstImage_readAt q_firstImage_meant q_firstImage_readSo q_secondImage_wide q_secondImage_high q_secondImage_slackNow q_secondImage_tenants q_secondImage_letters q_secondImage_readings q_secondImage_kinds q_secondImage_painOf q_secondImage_payFor q_secondImage_refused q_secondImage_owned q_secondImage_litIn q_secondImage_shapes q_secondImage_readAt q_secondImage_meant q_secondImage_readSo = some r ∧ ((f_X8_told fu u_refused (-2)).bind fun t12 => some (t12.1, u_st, t12.2)) = some u ∧ r.1 = u.1 ∧ SS u.2.2 r.2.1 r.2.2.1 r.2.2.2.1 ∧ Iv s2 ∧ SR u.2.1 s2 ∧ WR r.2.2.2.2.1 r.2.2.2.2.2.1 r.2.2.2.2.2.2.1 r.2.2.2.2.2.2.2.1 r.2.2.2.2.2.2.2.2.1 r.2.2.2.2.2.2.2.2.2.1 r.2.2.2.2.2.2.2.2.2.2.1 r.2.2.2.2.2.2.2.2.2.2.2.1 r.2.2.2.2.2.2.2.2.2.2.2.2.1 r.2.2.2.2.2.2.2.2.2.2.2.2.2.1 r.2.2.2.2.2.2.2.2.2.2.2.2.2.2.1 r.2.2.2.2.2.2.2.2.2.2.2.2.2.2.2.1 r.2.2.2.2.2.2.2.2.2.2.2.2.2.2.2.2.1 r.2.2.2.2.2.2.2.2.2.2.2.2.2.2.2.2.2.1 r.2.2.2.2.2.2.2.2.2.2.2.2.2.2.2.2.2.2.1 r.2.2.2.2.2.2.2.2.2.2.2.2.2.2.2.2.2.2.2 s2 := by
    rw [X7_from_J9, c_bad, pz_bind, t_bad, pz_bind]
    exact ⟨_, _, s, rfl, rfl, rfl, SS_bad hS, I, R, W⟩
  have none : ∃ r u s2, X7_from_J37 fu q_firstKept q_secondKept q_wereBad q_wereNo q_wereFull q_wall_wide q_wall_high q_wall_slackNow q_wall_tenants q_wall_letters q_wall_readings q_wall_kinds q_wall_painOf q_wall_payFor q_wall_refused q_wall_owned q_wall_litIn q_wall_shapes q_wall_readAt q_wall_meant q_wall_readSo q_firstImage_wide q_firstImage_high q_firstImage_slackNow q_firstImage_tenants q_firstImage_letters q_firstImage_readings q_firstImage_kinds q_firstImage_painOf q_firstImage_payFor q_firstImage_refused q_firstImage_owned q_firstImage_litIn q_firstImage_shapes q_firstImage_readAt q_firstImage_meant q_firstImage_readSo q_secondImage_wide q_secondImage_high q_secondImage_slackNow q_secondImage_tenants q_secondImage_letters q_secondImage_readings q_secondImage_kinds q_secondImage_painOf q_secondImage_payFor q_secondImage_refused q_secondImage_owned q_secondImage_litIn q_secondImage_shapes q_secondImage_readAt q_secondImage_meant q_secondImage_readSo = some r ∧ ((f_X8_told fu u_refused (-3)).bind fun t28 => some (t28.1, u_st, t28.2)) = some u ∧ r.1 = u.1 ∧ SS u.2.2 r.2.1 r.2.2.1 r.2.2.2.1 ∧ Iv s2 ∧ SR u.2.1 s2 ∧ WR r.2.2.2.2.1 r.2.2.2.2.2.1 r.2.2.2.2.2.2.1 r.2.2.2.2.2.2.2.1 r.2.2.2.2.2.2.2.2.1 r.2.2.2.2.2.2.2.2.2.1 r.2.2.2.2.2.2.2.2.2.2.1 r.2.2.2.2.2.2.2.2.2.2.2.1 r.2.2.2.2.2.2.2.2.2.2.2.2.1 r.2.2.2.2.2.2.2.2.2.2.2.2.2.1 r.2.2.2.2.2.2.2.2.2.2.2.2.2.2.1 r.2.2.2.2.2.2.2.2.2.2.2.2.2.2.2.1 r.2.2.2.2.2.2.2.2.2.2.2.2.2.2.2.2.1 r.2.2.2.2.2.2.2.2.2.2.2.2.2.2.2.2.2.1 r.2.2.2.2.2.2.2.2.2.2.2.2.2.2.2.2.2.2.1 r.2.2.2.2.2.2.2.2.2.2.2.2.2.2.2.2.2.2.2 s2 := by
    rw [X7_from_J37, c_no, pz_bind, t_no, pz_bind]
    exact ⟨_, _, s, rfl, rfl, rfl, SS_no hS, I, R, W⟩
  rcases rngI v1 (lo := 0) (hi := 1) (by decide) (by decide) with ⟨a1, a2, a3, -⟩ | ⟨a1, a2⟩
  · rw [decide_eq_true a1, if_neg b_t, if_neg (show ¬ v1 < 0 from a2)]
    have ev := vN_e (v := v1) (by omega)
    generalize vN v1 = i at *
    subst ev
    rw [if_pos (show nI i < 2 by rw [pz_c2, pz_lt (by omega) (by decide)]; omega), pz_rd _ _ (by omega) (by omega)]
    obtain ⟨a, e1, e2⟩ := x8_fromOn (fu := fu) (st := u_st) (kept := u_kept) (isKept := u_isKept) (rf := u_refused) (i := i) hf (by omega)
    rw [e1]
    rcases (show i = 0 ∨ i = 1 by omega) with g | g
    · subst g
      obtain ⟨b, k1, k2, k3⟩ := K0
      rw [if_pos (show nI 0 = 0 from rfl), k1, k2]
      cases b
      · rw [if_pos b_f, if_pos b_f]
        subst k1
        exact none
      · rw [if_neg b_t, if_neg b_t, X7_from_J44, if_pos (show nI 0 = 0 from rfl), X7_from_J63a, f_X5_beLike, pz_bind]
        obtain ⟨z, z1, z2, z3⟩ := k3 rfl
        exact ⟨_, _, z, rfl, rfl, rfl, hS, z1, fun k hk => (e2 k hk).trans (z2 k hk), WR_cpy z1 z3⟩
    · subst g
      obtain ⟨b, k1, k2, k3⟩ := K1
      rw [if_neg (by decide), k1, k2]
      cases b
      · rw [if_pos b_f, if_pos b_f]
        subst k1
        exact none
      · rw [if_neg b_t, if_neg b_t, X7_from_J44, if_neg (by decide), X7_from_J63, f_X5_beLike, pz_bind]
        obtain ⟨z, z1, z2, z3⟩ := k3 rfl
        exact ⟨_, _, z, rfl, rfl, rfl, hS, z1, fun k hk => (e2 k hk).trans (z2 k hk), WR_cpy z1 z3⟩
  · rw [decide_eq_false a1, if_pos b_f]
    rcases a2 with g | ⟨g1, g2, -⟩
    · rw [if_pos (show v1 < 0 from g)]
      exact bad
    · rw [if_neg (show ¬ v1 < 0 from g1), if_neg (show ¬ v1 < 2 from fun q => g2 (by
        obtain ⟨k, hk, rfl⟩ := nI_of g1
        rw [pz_c2, pz_lt hk (by decide)] at q
        rw [pz_le hk (by decide)]; omega))]
      exact bad
end
