/-! CAN, BARS: both answer alike (the reference's loops) -/
def cpos (n a b : Nat) : Nat := if n = 1 then a + (b - 1) else 10 * a + b
def clim (s : Nat → Nat) (n : Nat) : Nat := if n = 1 then 1 else s 3
section
variable {fu : Nat} {s : Nat → Nat}
theorem wl_1 {m : Nat} (h : wl m = 1) : m ≤ 9 := by
  unfold wl at h
  rcases Nat.lt_or_ge 99 m with q | q
  · rw [if_pos q] at h; cases h
  · rw [if_neg (by omega)] at h
    rcases Nat.lt_or_ge 9 m with q2 | q2
    · rw [if_pos q2] at h; cases h
    · exact q2
theorem wl_2 {m : Nat} (h : wl m = 2) : 9 < m ∧ m ≤ 99 := by
  unfold wl at h
  rcases Nat.lt_or_ge 99 m with q | q
  · rw [if_pos q] at h; cases h
  · rw [if_neg (by omega)] at h
    rcases Nat.lt_or_ge 9 m with q2 | q2
    · exact ⟨q2, q⟩
    · rw [if_neg (by omega)] at h; cases h
theorem cpos_ok {n a b : Nat} (hL : s 3 ≤ 6) (hn : n = 1 ∨ n = 2) (ha : 1 ≤ a ∧ a ≤ s 3) (hb : 1 ≤ b ∧ b ≤ clim s n) : okW s (cpos n a b) ∧ wl (cpos n a b) = n := by
  unfold clim at hb
  unfold cpos
  rcases hn with rfl | rfl
  · rw [if_pos rfl] at hb ⊢
    obtain rfl : b = 1 := by omega
    refine ⟨⟨by omega, by omega, by omega, fun q => by omega, fun q => by omega⟩, ?_⟩
    unfold wl
    rw [if_neg (by omega), if_neg (by omega)]
  · rw [if_neg (by decide)] at hb ⊢
    refine ⟨⟨by omega, by omega, by omega, fun q => by omega, fun q => by omega⟩, ?_⟩
    unfold wl
    rw [if_neg (by omega), if_pos (by omega)]
theorem cpos_next {n a h : Nat} (hL : s 3 ≤ 6) (hn : n = 1 ∨ n = 2) (ha : 1 ≤ a ∧ a ≤ s 3) : cnF s h n (cpos n a (clim s n + 1)) = cnF s h n (cpos n (a + 1) 1) := by
  rcases hn with rfl | rfl
  · rfl
  · have e : cpos 2 (a + 1) 1 = cpos 2 a (clim s 2 + 1) + (10 - s 3) := by
      unfold cpos clim
      rw [if_neg (by decide), if_neg (by decide), if_neg (by decide)]
      omega
    rw [e, cnF_gap]
    intro m h1 h2
    unfold cpos clim at h1 h2
    rw [if_neg (by decide), if_neg (by decide)] at h1 h2
    refine cnB_not (Or.inl (fun q => ?_))
    have := q.2.2.1
    omega
theorem cpos_end {n h : Nat} (hL : s 3 ≤ 6) (hn : n = 1 ∨ n = 2) : cnF s h n (cpos n (s 3 + 1) 1) = cnF s h n 67 := by
  have hle : cpos n (s 3 + 1) 1 ≤ 67 ∨ cpos n (s 3 + 1) 1 > 67 := by omega
  rcases hn with rfl | rfl
  · have e : 67 = cpos 1 (s 3 + 1) 1 + (66 - s 3) := by
      unfold cpos
      rw [if_pos rfl]
      omega
    have g := cnF_gap (s := s) (h := h) (n := 1) (a := cpos 1 (s 3 + 1) 1) (66 - s 3) (fun m h1 h2 => by
      unfold cpos at h1 h2
      rw [if_pos rfl] at h1 h2
      by_cases q : wl m = 1
      · have := wl_1 q
        refine cnB_not (Or.inl (fun g => ?_))
        have := g.2.2.1
        omega
      · exact cnB_not (Or.inr q))
    rw [← e] at g
    exact g.symm
  · rcases Nat.lt_or_ge (s 3) 6 with h6 | h6
    · have e : 67 = cpos 2 (s 3 + 1) 1 + (56 - 10 * s 3) := by
        unfold cpos
        rw [if_neg (by decide)]
        omega
      have g := cnF_gap (s := s) (h := h) (n := 2) (a := cpos 2 (s 3 + 1) 1) (56 - 10 * s 3) (fun m h1 h2 => by
        unfold cpos at h1 h2
        rw [if_neg (by decide)] at h1 h2
        refine cnB_not (Or.inl (fun g => ?_))
        have := g.2.2.2.1 (by omega)
        omega)
      rw [← e] at g
      exact g.symm
    · have e : cpos 2 (s 3 + 1) 1 = 67 + 4 := by
        unfold cpos
        rw [if_neg (by decide)]
        omega
      rw [e]
      refine cnF_gap 4 (fun m h1 h2 => cnB_not (Or.inl (fun g => ?_)))
      have := g.2.1
      have := g.2.2.1
      have := g.2.2.2.1 (by omega)
      omega
theorem cpos_begin {n h : Nat} (hn : n = 1 ∨ n = 2) : cnF s h n (cpos n 1 1) = 0 := by
  rcases hn with rfl | rfl
  · show cnF s h 1 1 = 0
    rw [cnF, cnF, cnB_not (Or.inl (fun q => absurd q.1 (by decide)))]
    rfl
  · show cnF s h 2 11 = 0
    have g := cnF_gap (s := s) (h := h) (n := 2) (a := 0) 11 (fun m h1 h2 => by
      by_cases q : wl m = 2
      · have := wl_2 q
        refine cnB_not (Or.inl (fun g => ?_))
        have := g.2.2.1
        omega
      · exact cnB_not (Or.inr q))
    rw [Nat.zero_add] at g
    rw [g]; rfl
theorem ca_inner {st ones rf : Nat → Int32} {h n a : Nat} {rec28 : Int32 → Int32 → Int32 → (Nat → Int32) → (Nat → Int32) → (Nat → Int32) → (Nat → Int32) → (Nat → Int32) → Int32 → Int32 → Option (Int32 × Int32 × Int32 × Int32 × (Nat → Int32) × (Nat → Int32) × (Nat → Int32) × (Nat → Int32) × (Nat → Int32) × (Nat → Int32))} (z : C8) (hf : 5000 ≤ fu) (I : Iv s) (R : SR st s) (hO : ∀ k, k < 4096 → ones k = nI (pc k)) (hh : h < 4) (hn : n = 1 ∨ n = 2) (ha : 1 ≤ a ∧ a ≤ s 3) (hz : z.2.2.2.2.2.2.2.2 = nI (cnF s h n (cpos n a 1))) : ∃ b : C8, b.2.2.2.2.2.2.2.2 = nI (cnF s h n (cpos n a (clim s n + 1))) ∧ X8_can_L42 fu rec28 st rf ones (nI n) (nI h) (nI a) fu z.1 z.2.1 z.2.2.1 z.2.2.2.1 z.2.2.2.2.1 z.2.2.2.2.2.1 z.2.2.2.2.2.2.1 z.2.2.2.2.2.2.2.1 z.2.2.2.2.2.2.2.2 (nI 1) = rec28 b.1 b.2.1 b.2.2.1 b.2.2.2.1 b.2.2.2.2.1 b.2.2.2.2.2.1 b.2.2.2.2.2.2.1 b.2.2.2.2.2.2.2.1 b.2.2.2.2.2.2.2.2 (nI (a + 1)) := by
  have hL := I.2.2.2.1
  have hd := SR_hd I R
  have hcl : clim s n ≤ 6 := by unfold clim; split <;> omega
  have e1 : nI n = 1 ↔ n = 1 := by rw [pz_c1, pz_eq (by omega) (by decide)]
  have main := pz_relC (fun m b (y : C8) => X8_can_L42 fu rec28 st rf ones (nI n) (nI h) (nI a) m y.1 y.2.1 y.2.2.1 y.2.2.2.1 y.2.2.2.2.1 y.2.2.2.2.2.1 y.2.2.2.2.2.2.1 y.2.2.2.2.2.2.2.1 y.2.2.2.2.2.2.2.2 (nI (b + 1))) (fun b y => y.2.2.2.2.2.2.2.2 = nI (cnF s h n (cpos n a (b + 1)))) (clim s n) (fun b => rec28 b.1 b.2.1 b.2.2.1 b.2.2.2.1 b.2.2.2.2.1 b.2.2.2.2.2.1 b.2.2.2.2.2.2.1 b.2.2.2.2.2.2.2.1 b.2.2.2.2.2.2.2.2 (nI (a + 1))) (fun m b y hb hy => ?_) (fun m y hy => ?_) fu 0 z (by omega) (by omega) hz
  · exact main
  · have hok := cpos_ok hL hn ha (show 1 ≤ b + 1 ∧ b + 1 ≤ clim s n by omega)
    obtain ⟨c, g1, g2⟩ := ca_step (fu := fu) (st := st) (ones := ones) (rf := rf) (n := n) (m := cnF s h n (cpos n a (b + 1))) (rec28 := rec28) (rec42 := X8_can_L42 fu rec28 st rf ones (nI n) (nI h) (nI a) m) (v4 := nI a) (v5 := nI (b + 1)) y hf I R hO hh hok.1
    refine ⟨c, ?_, ?_⟩
    · rw [g1]
      have ec : cpos n a (b + 1 + 1) = cpos n a (b + 1) + 1 := by unfold cpos; split <;> omega
      rw [ec, cnF, cnB, okB_iff.mpr hok.1, decide_eq_true hok.2, Bool.true_and, Bool.true_and]
    · try simp only
      rw [X8_can_L42, hy, ← nI_1 (b + 1), ← g2]
      generalize X8_can_L42 fu rec28 st rf ones (nI n) (nI h) (nI a) m = rec
      rcases hn with rfl | rfl
      · have hb0 : b = 0 := by unfold clim at hb; rw [if_pos rfl] at hb; omega
        subst hb0
        rw [if_pos (by decide), X8_can_J59, if_neg (by decide), if_pos (by decide)]
        rfl
      · have hb3 : b < s 3 := by unfold clim at hb; rw [if_neg (by decide)] at hb; exact hb
        rw [if_neg (by decide), X8_can_J59, hd.2.2.2.1, if_neg (by rw [pz_lt (by omega) (by omega)]; omega), if_neg (by decide)]
        have e12 : (10 : Int32) * nI a + nI (b + 1) = nI (cpos 2 a (b + 1)) := by
          rw [pz_c10, pk_mul, nI_add]; rfl
        rw [e12]
  · try simp only
    rw [X8_can_L42]
    generalize X8_can_L42 fu rec28 st rf ones (nI n) (nI h) (nI a) m = rec
    rcases hn with rfl | rfl
    · rw [if_pos (by decide), X8_can_J59, if_pos (show (1 : Int32) < nI (clim s 1 + 1) by rw [show clim s 1 = 1 from rfl]; decide +kernel), nI_1]
    · rw [if_neg (by decide), X8_can_J59, hd.2.2.2.1]
      have : clim s 2 = s 3 := by unfold clim; rw [if_neg (by decide)]
      rw [this, if_pos (by rw [pz_lt (by omega) (by omega)]; omega), nI_1]
theorem x8_can {st ones rf : Nat → Int32} {h n : Nat} (z : C8) (hf : 5000 ≤ fu) (I : Iv s) (R : SR st s) (hO : ∀ k, k < 4096 → ones k = nI (pc k)) (hh : h < 4) (hn : n = 1 ∨ n = 2) (hz : z.2.2.2.2.2.2.2.2 = nI 0) : ∃ r, X8_can_L28 fu st rf ones (nI n) (nI h) fu z.1 z.2.1 z.2.2.1 z.2.2.2.1 z.2.2.2.2.1 z.2.2.2.2.2.1 z.2.2.2.2.2.2.1 z.2.2.2.2.2.2.2.1 z.2.2.2.2.2.2.2.2 (nI 1) = some r ∧ r.1 = nI (cnF s h n 67) ∧ r.2.2.2.2.1 = rf := by
  have hL := I.2.2.2.1
  have hd := SR_hd I R
  refine pz_rel (fun m k (y : C8) => X8_can_L28 fu st rf ones (nI n) (nI h) m y.1 y.2.1 y.2.2.1 y.2.2.2.1 y.2.2.2.2.1 y.2.2.2.2.2.1 y.2.2.2.2.2.2.1 y.2.2.2.2.2.2.2.1 y.2.2.2.2.2.2.2.2 (nI (k + 1))) (fun k y => y.2.2.2.2.2.2.2.2 = nI (cnF s h n (cpos n (k + 1) 1))) (s 3) _ (fun m k y hk hy => ?_) (fun m y hy => ?_) fu 0 z (by omega) (by omega) (by rw [hz, cpos_begin hn])
  · right
    obtain ⟨b, g1, g2⟩ := ca_inner (fu := fu) (st := st) (ones := ones) (rf := rf) (rec28 := X8_can_L28 fu st rf ones (nI n) (nI h) m) y hf I R hO hh hn (show 1 ≤ k + 1 ∧ k + 1 ≤ s 3 by omega) hy
    refine ⟨b, ?_, ?_⟩
    · rw [g1, cpos_next hL hn (by omega)]
    · try simp only
      rw [X8_can_L28, if_neg (by rw [hd.2.2.2.1, pz_lt (by omega) (by omega)]; omega)]
      exact g2
  · try simp only
    rw [X8_can_L28, if_pos (by rw [hd.2.2.2.1, pz_lt (by omega) (by omega)]; omega)]
    exact ⟨_, rfl, by rw [hy, cpos_end hL hn], rfl⟩
theorem q_can {q_wall_wide : Int32} {q_wall_high : Int32} {q_wall_slackNow : Int32} {q_wall_tenants : Int32} {q_wall_letters : Int32} {q_wall_readings : Int32} {q_wall_kinds : Nat → Int32} {q_wall_painOf : Nat → Int32} {q_wall_payFor : Nat → Int32} {q_wall_refused : Nat → Int32} {q_wall_owned : Nat → Int64} {q_wall_litIn : Nat → Int64} {q_wall_shapes : Nat → Int32} {q_wall_readAt : Nat → Int32} {q_wall_meant : Nat → Int32} {q_wall_readSo : Nat → Int32} {u_st u_refused u_ones : Nat → Int32} {q_wereBad q_wereNo q_wereFull : Int32} {q_asked_length : Int32} {q_asked_bits : Int32} {q_asked_letters : Nat → Int32} {u_line : Int32} {u_foundPains : Int32} {u_foundLine : Int32} {u_readTable : Nat → Int32} {u_least : Nat → Int32} {u_made : Nat → Int32} {u_column : Nat → Int32} {u_foundColumn : Nat → Int32} (v1 : Int32) (v2 : Int32) (hf : 5000 ≤ fu) (I : Iv s) (W : WR q_wall_wide q_wall_high q_wall_slackNow q_wall_tenants q_wall_letters q_wall_readings q_wall_kinds q_wall_painOf q_wall_payFor q_wall_refused q_wall_owned q_wall_litIn q_wall_shapes q_wall_readAt q_wall_meant q_wall_readSo s) (R : SR u_st s) (hS : SS u_refused q_wereBad q_wereNo q_wereFull) (hO : ∀ k, k < 4096 → u_ones k = nI (pc k)) : ∃ r u, f_X7_can fu q_wereBad q_wereNo q_wereFull q_wall_wide q_wall_high q_wall_slackNow q_wall_tenants q_wall_letters q_wall_kinds q_wall_refused q_wall_owned q_wall_litIn q_wall_shapes q_asked_length q_asked_bits q_asked_letters v1 v2 = some r ∧ f_X8_can fu u_line u_foundPains u_foundLine u_st u_refused u_ones u_readTable u_least u_made u_column u_foundColumn v1 v2 = some u ∧ r.1 = u.1 ∧ SS u.2.2.2.2.1 r.2.1 r.2.2.1 r.2.2.2.1 := by
  obtain ⟨⟨rfl, rfl, rfl, rfl, rfl, rfl⟩, T, L, S, D⟩ := W
  rw [f_X7_can, f_X8_can, show f_X8_in fu v1 1 2 = _ from x8_in (lo := 1) (hi := 2) (by decide) (by decide) v1, pz_bind]
  by_cases h1 : 1 ≤ vN v1 ∧ vN v1 ≤ 2
  · have ev := vN_e (v := v1) (by omega)
    rw [decide_eq_true h1, if_neg b_t]
    generalize vN v1 = n at *
    subst ev
    rw [if_neg (by rw [pz_c1, pz_lt (by omega) (by decide)]; omega), if_neg (by rw [pz_c2, pz_lt (by decide) (by omega)]; omega), x7_isHour, pz_bind, x8_isHour, pz_bind]
    by_cases hh : vN v2 < 4
    · have ev2 := vN_e (v := v2) (by omega)
      rw [decide_eq_true hh, if_neg b_t, if_neg b_t]
      generalize vN v2 = h at *
      subst ev2
      obtain ⟨r7, e3, c1, c2, c3, c4⟩ := x7_can (fu := fu) (wb := q_wereBad) (wn := q_wereNo) (wf := q_wereFull) (l0 := q_asked_length) (b0 := q_asked_bits) (le0 := q_asked_letters) (n := n) hf I T L S hh (by omega)
      obtain ⟨u, e4, d1, d2⟩ := x8_can (fu := fu) (st := u_st) (ones := u_ones) (rf := u_refused) (n := n) (h := h) (u_line, u_foundPains, u_foundLine, u_readTable, u_least, u_made, u_column, u_foundColumn, nI 0) hf I R hO hh (by omega) rfl
      refine ⟨r7, u, e3, e4, by rw [c1, d1], ?_⟩
      rw [d2, c2, c3, c4]
      exact hS
    · rw [decide_eq_false hh, if_pos b_f, if_pos b_f, X7_can_J17, c_bad, pz_bind, X8_can_J16, t_bad, pz_bind]
      exact ⟨_, _, rfl, rfl, rfl, SS_bad hS⟩
  · rw [decide_eq_false h1, if_pos b_f, X8_can_J16, t_bad, pz_bind]
    have hX : (v1 < 1) ∨ (¬ v1 < 1 ∧ 2 < v1) := by
      rcases pz_cases v1 with ⟨a, ha, rfl⟩ | ⟨b, hb0, hb, rfl⟩
      · rw [vN_n ha] at h1
        rw [pz_c1, pz_c2, pz_lt ha (by decide), pz_lt (by decide) ha]
        omega
      · left
        rw [pz_c1, pz_mlt (by decide) hb hb0]
        trivial
    rcases hX with q | ⟨q1, q2⟩
    · rw [if_pos q, X7_can_J17, c_bad, pz_bind]
      exact ⟨_, _, rfl, rfl, rfl, SS_bad hS⟩
    · rw [if_neg q1, if_pos q2, X7_can_J17, c_bad, pz_bind]
      exact ⟨_, _, rfl, rfl, rfl, SS_bad hS⟩
/-! bars -/
def anB (s : Nat → Nat) (h w y : Nat) : Nat → Bool
  | 0 => false
  | x + 1 => anB s h w y x || FT s h w 63 (wd w 0) (12 * y + x)
def brF (s : Nat → Nat) (h w : Nat) : Nat → Nat
  | 0 => 0
  | y + 1 => brF s h w y ||| (if anB s h w y (s 0 - 2) = true then 0 else 1 <<< y)
theorem anB_iff {h w y : Nat} : ∀ m, anB s h w y m = true ↔ ∃ x, x < m ∧ FT s h w 63 (wd w 0) (12 * y + x) = true
  | 0 => ⟨(fun q => by cases q), (fun ⟨x, hx, _⟩ => absurd hx (Nat.not_lt_zero x))⟩
  | m + 1 => by
    rw [anB, Bool.or_eq_true, anB_iff m]
    constructor
    · rintro (⟨x, h1, h2⟩ | h1)
      · exact ⟨x, by omega, h2⟩
      · exact ⟨m, by omega, h1⟩
    · rintro ⟨x, h1, h2⟩
      rcases Nat.lt_or_ge x m with q | q
      · exact Or.inl ⟨x, q, h2⟩
      · obtain rfl : x = m := by omega
        exact Or.inr h2
theorem q_bars {q_wall_wide : Int32} {q_wall_high : Int32} {q_wall_slackNow : Int32} {q_wall_tenants : Int32} {q_wall_letters : Int32} {q_wall_readings : Int32} {q_wall_kinds : Nat → Int32} {q_wall_painOf : Nat → Int32} {q_wall_payFor : Nat → Int32} {q_wall_refused : Nat → Int32} {q_wall_owned : Nat → Int64} {q_wall_litIn : Nat → Int64} {q_wall_shapes : Nat → Int32} {q_wall_readAt : Nat → Int32} {q_wall_meant : Nat → Int32} {q_wall_readSo : Nat → Int32} {u_st u_refused u_ones : Nat → Int32} {q_wereBad q_wereNo q_wereFull : Int32} {q_asked_length : Int32} {q_asked_bits : Int32} {q_asked_letters : Nat → Int32} {u_line : Int32} {u_foundPains : Int32} {u_foundLine : Int32} {u_readTable : Nat → Int32} {u_least : Nat → Int32} {u_made : Nat → Int32} {u_column : Nat → Int32} {u_foundColumn : Nat → Int32} (v1 : Int32) (v2 : Int32) (hf : 5000 ≤ fu) (I : Iv s) (W : WR q_wall_wide q_wall_high q_wall_slackNow q_wall_tenants q_wall_letters q_wall_readings q_wall_kinds q_wall_painOf q_wall_payFor q_wall_refused q_wall_owned q_wall_litIn q_wall_shapes q_wall_readAt q_wall_meant q_wall_readSo s) (R : SR u_st s) (hS : SS u_refused q_wereBad q_wereNo q_wereFull) (hO : ∀ k, k < 4096 → u_ones k = nI (pc k)) : ∃ r u, f_X7_bars fu q_wereBad q_wereNo q_wereFull q_wall_wide q_wall_high q_wall_slackNow q_wall_tenants q_wall_letters q_wall_kinds q_wall_refused q_wall_owned q_wall_litIn q_wall_shapes q_asked_length q_asked_bits q_asked_letters v1 v2 = some r ∧ f_X8_bars fu u_line u_foundPains u_foundLine u_st u_refused u_ones u_readTable u_least u_made u_column u_foundColumn v1 v2 = some u ∧ r.1 = u.1 ∧ SS u.2.2.2.2.1 r.2.1 r.2.2.1 r.2.2.2.1 := by
  obtain ⟨⟨rfl, rfl, rfl, rfl, rfl, rfl⟩, T, L, S, D⟩ := W
  obtain ⟨r, e, g1, g2⟩ := x7_isAsked (fu := fu) (l0 := q_asked_length) (b0 := q_asked_bits) (le := q_asked_letters) hf I.2.2.2.1 v1 v2
  rw [f_X7_bars, f_X8_bars, e, pz_bind, x8_isWord hf I R, pz_bind, g1]
  cases hok : okB s (vN v1)
  · rw [Bool.and_false, if_pos b_f, if_pos b_f, c_bad, pz_bind, X8_bars_J15, t_bad, pz_bind]
    exact ⟨_, _, rfl, rfl, rfl, SS_bad hS⟩
  · rw [if_neg b_t, x8_isHour, pz_bind]
    by_cases hh : vN v2 < 4
    · obtain ⟨hw, ev⟩ := okB_v hok
      have ev2 := vN_e (v := v2) (by omega)
      rw [hok, decide_eq_true hh] at g2
      obtain ⟨g3, bits, g4, g5⟩ := g2 rfl
      rw [decide_eq_true hh, Bool.and_true, if_neg b_t, if_neg b_t, g3, g4]
      generalize vN v1 = w at *
      generalize vN v2 = h at *
      subst ev
      subst ev2
      have hr := wl_rng w
      have i0 := I.1
      have i1 := I.2.1
      have hwd := wd_lt hw (show 0 < wl w by omega)
      have hd := SR_hd I R
      obtain ⟨r8, e8, b1, b2, b3⟩ := x8_findWord (fu := fu) (l0 := u_line) (fp0 := u_foundPains) (fl0 := u_foundLine) (rt := u_readTable) (le := u_least) (ma := u_made) (co := u_column) (fc := u_foundColumn) hf I R hO hh hw
      have hBr : (BP s h w).1 = 65535 ∨ (BP s h w).1 ≤ 756 := bestW_rng (fun j hj => TT_rng I hj)
      rw [x7_may hf I T L hh g5, pz_bind, x7_said hf I L S hh hw g5, pz_bind, e8, pz_bind, said_BP I hh hw]
      rcases hBr with hB | hB
      · have hbf : decide ((BP s h w).1 ≠ 65535) = false := decide_eq_false (by omega)
        rw [hbf, if_pos b_f, if_pos (by rw [b1, hB]; rfl)]
        have brl : ∀ y, y ≤ 5 → brF s h w y < 2 ^ y := by
          intro y hy
          induction y with
          | zero => rw [brF]; decide
          | succ y ih =>
            have := ih (by omega)
            rw [brF]
            apply Nat.or_lt_two_pow
            · exact Nat.lt_of_lt_of_le this (Nat.pow_le_pow_right (by decide) (by omega))
            · split
              · exact Nat.two_pow_pos _
              · rw [Nat.shiftLeft_eq, Nat.one_mul]
                exact Nat.pow_lt_pow_right (by decide) (by omega)
        have c7 : ∃ r7, X7_bars_L58 fu q_wereBad q_wereNo q_wereFull (nI (s 0)) (nI (s 1)) (nI (s 5)) (nI (s 2)) (nI (s 3)) q_wall_kinds q_wall_refused q_wall_owned q_wall_litIn q_wall_shapes (nI (wl w)) (nI bits) r.2.2.2 (nI h) (lN (MAY s h w 63)) fu (nI 0) (nI 0) = some r7 ∧ r7.1 = nI (brF s h w (s 1 - 3)) ∧ r7.2.1 = q_wereBad ∧ r7.2.2.1 = q_wereNo ∧ r7.2.2.2.1 = q_wereFull := by
          refine ⟨(nI (brF s h w (s 1 - 3)), q_wereBad, q_wereNo, q_wereFull, nI (wl w), nI bits, r.2.2.2), ?_, rfl, rfl, rfl, rfl⟩
          refine pz_up (fun n y => X7_bars_L58 fu q_wereBad q_wereNo q_wereFull (nI (s 0)) (nI (s 1)) (nI (s 5)) (nI (s 2)) (nI (s 3)) q_wall_kinds q_wall_refused q_wall_owned q_wall_litIn q_wall_shapes (nI (wl w)) (nI bits) r.2.2.2 (nI h) (lN (MAY s h w 63)) n (nI (brF s h w y)) (nI y)) (s 1 - 3) _ (fun n y hy => ?_) (fun n => ?_) fu 0 (by omega) (by omega)
          · have hfc := x5_firstColumn (fu := fu) (w := w) (set := 63) (x := 0) hf I L S hh hwd (show y + 4 ≤ s 1 by omega) (by decide)
            have hq := fc_q (F := fun x => FT s h w 63 (wd w 0) (12 * y + x)) (x := 0) i0.2
            have hl0 := g5.2.2 0 (by omega)
            rw [X7_bars_L58]
            generalize X7_bars_L58 fu q_wereBad q_wereNo q_wereFull (nI (s 0)) (nI (s 1)) (nI (s 5)) (nI (s 2)) (nI (s 3)) q_wall_kinds q_wall_refused q_wall_owned q_wall_litIn q_wall_shapes (nI (wl w)) (nI bits) r.2.2.2 (nI h) (lN (MAY s h w 63)) n = rec
            rw [if_neg (by rw [pz_c4, pk_sub (by omega), pz_lt (by omega) (by omega)]; omega), hl0, show f_X5_firstColumn fu (nI (s 0)) (nI (s 5)) (nI (s 3)) q_wall_litIn q_wall_shapes (nI (wd w 0)) (nI y) 0 (nI h) (lN (MAY s h w 63)) = _ from hfc, pz_bind, brF]
            rcases hq with ⟨a, b⟩ | ⟨a, b, c, d⟩
            · have han : anB s h w y (s 0 - 2) = false := by
                rw [← Bool.not_eq_true, anB_iff]
                rintro ⟨x, h1, h2⟩
                have := b x (by omega) (by omega)
                try simp only at this
                rw [this] at h2; cases h2
              rw [a, eI_N, if_pos (show -nI 1 = -1 from rfl), han, pz_let, X7_bars_J106, pz_c1, pz_c31, pz_and, pz_n31 (by omega), pz_shl _ (by omega), pz_or, nI_add]
              rfl
            · have han : anB s h w y (s 0 - 2) = true := (anB_iff _).mpr ⟨_, by omega, c⟩
              rw [eI_of (by omega), if_neg (by rw [pz_c1, pz_eqm (by omega) (by decide) (by decide)]; exact id), han, X7_bars_J106, if_pos rfl, Nat.or_zero, nI_1]
          · rw [X7_bars_L58]
            generalize X7_bars_L58 fu q_wereBad q_wereNo q_wereFull (nI (s 0)) (nI (s 1)) (nI (s 5)) (nI (s 2)) (nI (s 3)) q_wall_kinds q_wall_refused q_wall_owned q_wall_litIn q_wall_shapes (nI (wl w)) (nI bits) r.2.2.2 (nI h) (lN (MAY s h w 63)) n = rec
            rw [if_pos (by rw [pz_c4, pk_sub (by omega), pz_lt (by omega) (by omega)]; omega)]
        have c8 : ∃ u, X8_bars_L43 fu r8.1 r8.2.1 r8.2.2.1 u_st u_refused u_ones r8.2.2.2.1 r8.2.2.2.2.1 r8.2.2.2.2.2.1 r8.2.2.2.2.2.2.1 r8.2.2.2.2.2.2.2 fu (nI 0) (nI 0) = some u ∧ u.1 = nI (brF s h w (s 1 - 3)) ∧ u.2.2.2.2.1 = u_refused := by
          refine ⟨(nI (brF s h w (s 1 - 3)), r8.1, r8.2.1, r8.2.2.1, u_refused, r8.2.2.2.1, r8.2.2.2.2.1, r8.2.2.2.2.2.1, r8.2.2.2.2.2.2.1, r8.2.2.2.2.2.2.2), ?_, rfl, rfl⟩
          refine pz_up (fun n y => X8_bars_L43 fu r8.1 r8.2.1 r8.2.2.1 u_st u_refused u_ones r8.2.2.2.1 r8.2.2.2.2.1 r8.2.2.2.2.2.1 r8.2.2.2.2.2.2.1 r8.2.2.2.2.2.2.2 n (nI (brF s h w y)) (nI y)) (s 1 - 3) _ (fun n y hy => ?_) (fun n => ?_) fu 0 (by omega) (by omega)
          · have inner := pz_up (fun m x => X8_bars_L62 fu (X8_bars_L43 fu r8.1 r8.2.1 r8.2.2.1 u_st u_refused u_ones r8.2.2.2.1 r8.2.2.2.2.1 r8.2.2.2.2.2.1 r8.2.2.2.2.2.2.1 r8.2.2.2.2.2.2.2 n) r8.1 r8.2.1 r8.2.2.1 u_st u_refused u_ones r8.2.2.2.1 r8.2.2.2.2.1 r8.2.2.2.2.2.1 r8.2.2.2.2.2.2.1 r8.2.2.2.2.2.2.2 (nI (brF s h w y)) (nI y) m (bI (anB s h w y x)) (nI x)) (s 0 - 2) (X8_bars_L43 fu r8.1 r8.2.1 r8.2.2.1 u_st u_refused u_ones r8.2.2.2.1 r8.2.2.2.2.1 r8.2.2.2.2.2.1 r8.2.2.2.2.2.2.1 r8.2.2.2.2.2.2.2 n (nI (brF s h w (y + 1))) (nI (y + 1))) (fun m x hx => by
              have hbx : boxB s (12 * y + x) = true := by
                simp only [boxB, decide_eq_true_eq]; omega
              have hLM := (b2 0 (by omega) _ hbx).1
              rw [Nat.mul_zero, Nat.zero_add] at hLM
              have hFB := FT_BX (s := s) (w := w) (i := 0) I hh (boxB_lt I hbx) hw (by omega)
              have hrg := BX_rng (s := s) (h := h) (w := w) (i := 0) I (boxB_lt I hbx)
              rw [X8_bars_L62]
              generalize X8_bars_L43 fu r8.1 r8.2.1 r8.2.2.1 u_st u_refused u_ones r8.2.2.2.1 r8.2.2.2.2.1 r8.2.2.2.2.2.1 r8.2.2.2.2.2.2.1 r8.2.2.2.2.2.2.2 n = rec43
              generalize X8_bars_L62 fu rec43 r8.1 r8.2.1 r8.2.2.1 u_st u_refused u_ones r8.2.2.2.1 r8.2.2.2.2.1 r8.2.2.2.2.2.1 r8.2.2.2.2.2.2.1 r8.2.2.2.2.2.2.2 (nI (brF s h w y)) (nI y) m = rec62
              rw [anB, hFB]
              cases hq : anB s h w y x
              · rcases hrg with hrg | hrg
                · simp (disch := omega) only [hd, hLM, hrg, X8_bars_J97, X8_bars_J102, Bool.false_or, pz_c0, pz_c1, pz_c2, pz_c3, pz_c4, pz_c5, pz_c6, pz_c7, pz_c8, pz_c9, pz_c10, pz_c11, pz_c12, pz_c13, pz_c14, pz_c15, pz_c16, pz_c17, pz_c18, pz_c19, pz_c20, pz_c21, pz_c22, pz_c23, pz_c24, pz_c25, pz_c26, pz_c27, pz_c28, pz_c29, pz_c30, pz_c31, pz_c32, pz_c33, pz_c34, pz_c35, pz_c36, pz_c42, pz_c48, pz_c57, pz_c59, pz_c60, pz_c63, pz_c64, pz_c66, pz_c96, pz_c97, pz_c99, pz_c100, pz_c122, pz_c127, pz_c128, pz_c200, pz_c255, pz_c299, pz_c300, pz_c336, pz_c354, pz_c585, pz_c666, pz_c708, pz_c1000, pz_c1170, pz_c4095, pz_c4096, pz_c4608, pz_c1000000, nI_add, pk_mul, pk_sub, pz_sub, pk_div, pz_or, pz_and, pz_xor, pz_n31, pz_shl, pz_shr, pz_eq, pz_le, pz_lt, pz_eqm, pz_meq, pz_mmeq, pz_lem, pz_mle, pz_ltm, pz_mlt, pz_mmle, pz_mmlt, pz_rd, pz_ck, pz_let, pz_cl, pz_bind, pz_gd, pz_zbb, eI_of, eI_N, pz_leT, pz_leF, pz_ltT, pz_ltF, pz_eqT, pz_eqF, if_pos, if_neg, if_true, if_false, ite_true, ite_false, pz_b0, pz_b1i, pz_bf, pz_bt, Bool.false_eq_true, Bool.true_eq_false, decide_true, decide_false, and_true, and_false, true_and, false_and, and_self, or_true, or_false, true_or, false_or, or_self, not_true_eq_false, not_false_eq_true, ne_eq, reduceIte, eq_self, upd_at]
                · simp (disch := omega) only [hd, hLM, X8_bars_J97, X8_bars_J102, Bool.false_or, pz_c0, pz_c1, pz_c2, pz_c3, pz_c4, pz_c5, pz_c6, pz_c7, pz_c8, pz_c9, pz_c10, pz_c11, pz_c12, pz_c13, pz_c14, pz_c15, pz_c16, pz_c17, pz_c18, pz_c19, pz_c20, pz_c21, pz_c22, pz_c23, pz_c24, pz_c25, pz_c26, pz_c27, pz_c28, pz_c29, pz_c30, pz_c31, pz_c32, pz_c33, pz_c34, pz_c35, pz_c36, pz_c42, pz_c48, pz_c57, pz_c59, pz_c60, pz_c63, pz_c64, pz_c66, pz_c96, pz_c97, pz_c99, pz_c100, pz_c122, pz_c127, pz_c128, pz_c200, pz_c255, pz_c299, pz_c300, pz_c336, pz_c354, pz_c585, pz_c666, pz_c708, pz_c1000, pz_c1170, pz_c4095, pz_c4096, pz_c4608, pz_c1000000, nI_add, pk_mul, pk_sub, pz_sub, pk_div, pz_or, pz_and, pz_xor, pz_n31, pz_shl, pz_shr, pz_eq, pz_le, pz_lt, pz_eqm, pz_meq, pz_mmeq, pz_lem, pz_mle, pz_ltm, pz_mlt, pz_mmle, pz_mmlt, pz_rd, pz_ck, pz_let, pz_cl, pz_bind, pz_gd, pz_zbb, eI_of, eI_N, pz_leT, pz_leF, pz_ltT, pz_ltF, pz_eqT, pz_eqF, if_pos, if_neg, if_true, if_false, ite_true, ite_false, pz_b0, pz_b1i, pz_bf, pz_bt, Bool.false_eq_true, Bool.true_eq_false, decide_true, decide_false, and_true, and_false, true_and, false_and, and_self, or_true, or_false, true_or, false_or, or_self, not_true_eq_false, not_false_eq_true, ne_eq, reduceIte, eq_self, upd_at]
              · simp (disch := omega) only [hd, X8_bars_J97, X8_bars_J102, Bool.true_or, pz_c0, pz_c1, pz_c2, pz_c3, pz_c4, pz_c5, pz_c6, pz_c7, pz_c8, pz_c9, pz_c10, pz_c11, pz_c12, pz_c13, pz_c14, pz_c15, pz_c16, pz_c17, pz_c18, pz_c19, pz_c20, pz_c21, pz_c22, pz_c23, pz_c24, pz_c25, pz_c26, pz_c27, pz_c28, pz_c29, pz_c30, pz_c31, pz_c32, pz_c33, pz_c34, pz_c35, pz_c36, pz_c42, pz_c48, pz_c57, pz_c59, pz_c60, pz_c63, pz_c64, pz_c66, pz_c96, pz_c97, pz_c99, pz_c100, pz_c122, pz_c127, pz_c128, pz_c200, pz_c255, pz_c299, pz_c300, pz_c336, pz_c354, pz_c585, pz_c666, pz_c708, pz_c1000, pz_c1170, pz_c4095, pz_c4096, pz_c4608, pz_c1000000, nI_add, pk_mul, pk_sub, pz_sub, pk_div, pz_or, pz_and, pz_xor, pz_n31, pz_shl, pz_shr, pz_eq, pz_le, pz_lt, pz_eqm, pz_meq, pz_mmeq, pz_lem, pz_mle, pz_ltm, pz_mlt, pz_mmle, pz_mmlt, pz_rd, pz_ck, pz_let, pz_cl, pz_bind, pz_gd, pz_zbb, eI_of, eI_N, pz_leT, pz_leF, pz_ltT, pz_ltF, pz_eqT, pz_eqF, if_pos, if_neg, if_true, if_false, ite_true, ite_false, pz_b0, pz_b1i, pz_bf, pz_bt, Bool.false_eq_true, Bool.true_eq_false, decide_true, decide_false, and_true, and_false, true_and, false_and, and_self, or_true, or_false, true_or, false_or, or_self, not_true_eq_false, not_false_eq_true, ne_eq, reduceIte, eq_self, upd_at]) (fun m => by
              rw [X8_bars_L62]
              generalize X8_bars_L43 fu r8.1 r8.2.1 r8.2.2.1 u_st u_refused u_ones r8.2.2.2.1 r8.2.2.2.2.1 r8.2.2.2.2.2.1 r8.2.2.2.2.2.2.1 r8.2.2.2.2.2.2.2 n = rec43
              generalize X8_bars_L62 fu rec43 r8.1 r8.2.1 r8.2.2.1 u_st u_refused u_ones r8.2.2.2.1 r8.2.2.2.2.1 r8.2.2.2.2.2.1 r8.2.2.2.2.2.2.1 r8.2.2.2.2.2.2.2 (nI (brF s h w y)) (nI y) m = rec62
              rw [brF]
              cases hq : anB s h w y (s 0 - 2)
              · simp (disch := omega) only [hd, X8_bars_J124, pz_c0, pz_c1, pz_c2, pz_c3, pz_c4, pz_c5, pz_c6, pz_c7, pz_c8, pz_c9, pz_c10, pz_c11, pz_c12, pz_c13, pz_c14, pz_c15, pz_c16, pz_c17, pz_c18, pz_c19, pz_c20, pz_c21, pz_c22, pz_c23, pz_c24, pz_c25, pz_c26, pz_c27, pz_c28, pz_c29, pz_c30, pz_c31, pz_c32, pz_c33, pz_c34, pz_c35, pz_c36, pz_c42, pz_c48, pz_c57, pz_c59, pz_c60, pz_c63, pz_c64, pz_c66, pz_c96, pz_c97, pz_c99, pz_c100, pz_c122, pz_c127, pz_c128, pz_c200, pz_c255, pz_c299, pz_c300, pz_c336, pz_c354, pz_c585, pz_c666, pz_c708, pz_c1000, pz_c1170, pz_c4095, pz_c4096, pz_c4608, pz_c1000000, nI_add, pk_mul, pk_sub, pz_sub, pk_div, pz_or, pz_and, pz_xor, pz_n31, pz_shl, pz_shr, pz_eq, pz_le, pz_lt, pz_eqm, pz_meq, pz_mmeq, pz_lem, pz_mle, pz_ltm, pz_mlt, pz_mmle, pz_mmlt, pz_rd, pz_ck, pz_let, pz_cl, pz_bind, pz_gd, pz_zbb, eI_of, eI_N, pz_leT, pz_leF, pz_ltT, pz_ltF, pz_eqT, pz_eqF, if_pos, if_neg, if_true, if_false, ite_true, ite_false, pz_b0, pz_b1i, pz_bf, pz_bt, Bool.false_eq_true, Bool.true_eq_false, decide_true, decide_false, and_true, and_false, true_and, false_and, and_self, or_true, or_false, true_or, false_or, or_self, not_true_eq_false, not_false_eq_true, ne_eq, reduceIte, eq_self, upd_at]
              · simp (disch := omega) only [hd, X8_bars_J124, pz_c0, pz_c1, pz_c2, pz_c3, pz_c4, pz_c5, pz_c6, pz_c7, pz_c8, pz_c9, pz_c10, pz_c11, pz_c12, pz_c13, pz_c14, pz_c15, pz_c16, pz_c17, pz_c18, pz_c19, pz_c20, pz_c21, pz_c22, pz_c23, pz_c24, pz_c25, pz_c26, pz_c27, pz_c28, pz_c29, pz_c30, pz_c31, pz_c32, pz_c33, pz_c34, pz_c35, pz_c36, pz_c42, pz_c48, pz_c57, pz_c59, pz_c60, pz_c63, pz_c64, pz_c66, pz_c96, pz_c97, pz_c99, pz_c100, pz_c122, pz_c127, pz_c128, pz_c200, pz_c255, pz_c299, pz_c300, pz_c336, pz_c354, pz_c585, pz_c666, pz_c708, pz_c1000, pz_c1170, pz_c4095, pz_c4096, pz_c4608, pz_c1000000, nI_add, pk_mul, pk_sub, pz_sub, pk_div, pz_or, pz_and, pz_xor, pz_n31, pz_shl, pz_shr, pz_eq, pz_le, pz_lt, pz_eqm, pz_meq, pz_mmeq, pz_lem, pz_mle, pz_ltm, pz_mlt, pz_mmle, pz_mmlt, pz_rd, pz_ck, pz_let, pz_cl, pz_bind, pz_gd, pz_zbb, eI_of, eI_N, pz_leT, pz_leF, pz_ltT, pz_ltF, pz_eqT, pz_eqF, if_pos, if_neg, if_true, if_false, ite_true, ite_false, pz_b0, pz_b1i, pz_bf, pz_bt, Bool.false_eq_true, Bool.true_eq_false, decide_true, decide_false, and_true, and_false, true_and, false_and, and_self, or_true, or_false, true_or, false_or, or_self, not_true_eq_false, not_false_eq_true, ne_eq, reduceIte, eq_self, upd_at]) fu 0 (by omega) (by omega)
            rw [X8_bars_L43, if_neg (by rw [hd.2.1, pz_c3, nI_add, pz_le (by omega) (by omega)]; omega)]
            exact inner
          · rw [X8_bars_L43, if_pos (by rw [hd.2.1, pz_c3, nI_add, pz_le (by omega) (by omega)]; omega)]
        obtain ⟨r7, c1, c2, c3, c4, c5⟩ := c7
        obtain ⟨u, d1, d2, d3⟩ := c8
        refine ⟨r7, u, c1, d1, by rw [c2, d2], ?_⟩
        rw [d3, c3, c4, c5]
        exact hS
      · have hbf : decide ((BP s h w).1 ≠ 65535) = true := decide_eq_true (by omega)
        have nn : ¬ r8.2.1 = -1 := by
          rw [b1, eI_of (by omega), pz_c1, pz_eqm (by omega) (by decide) (by decide)]; exact id
        rw [hbf, if_neg b_t, if_neg nn]
        exact ⟨_, _, rfl, rfl, rfl, hS⟩
    · rw [decide_eq_false hh, Bool.false_and, if_pos b_f, if_pos b_f, c_bad, pz_bind, X8_bars_J15, t_bad, pz_bind]
      exact ⟨_, _, rfl, rfl, rfl, SS_bad hS⟩
end
