/-! A PLAN READ -/
section
variable {fu : Nat} {tl : Nat} {b : Nat → Nat} {bytes text before : Nat → Int32} {len ts : Int32}
variable {q_wall_readAt q_wall_meant q_wall_readSo : Nat → Int32}
theorem tellOn {M : Nat} {words num : Nat → Int32} (hf : 5000 ≤ fu) (X : TX tl b len bytes ts text) (hm : M ≤ 100) (hg : ∀ j, j < M → gI tl b (qI tl b j)) (hend : tK tl b (qI tl b M) = 3) (hT : ST tl b M words num) : ∀ m i n (wi hi sl te le re : Int32) (ki pa py rf : Nat → Int32) (ow li : Nat → Int64) (sh : Nat → Int32) (s : Nat → Nat) (st said : Nat → Int32) (nu fl : Int32) (wo : Int64), m + i = M → m + 1 < n → Iv s → SR st s → WR wi hi sl te le re ki pa py rf ow li sh q_wall_readAt q_wall_meant q_wall_readSo s → IO fu tl b (qI tl b i) nu wo → ∃ r cu2 start2 tk2 nu2 wo2 fl2 st2 said2 k v3, X4_tellTo_L2 fu (nI M) words num n wi hi sl te le re ki pa py rf ow li sh (nI i) = some r ∧ X8_read_L62 fu ts before text n (nI (tE tl b (qI tl b i))) (nI (tP tl b (qI tl b i))) (nI (t8 tl b (qI tl b i))) nu wo fl st said (nI i) 1 = X8_read_J97 fu ts cu2 start2 tk2 nu2 wo2 fl2 st2 before text said2 (nI k) v3 ∧ ((r.1 = -1 ∧ k = M ∧ v3 = nI 1 ∧ ∃ s2, Iv s2 ∧ SR st2 s2 ∧ WR r.2.1 r.2.2.1 r.2.2.2.1 r.2.2.2.2.1 r.2.2.2.2.2.1 r.2.2.2.2.2.2.1 r.2.2.2.2.2.2.2.1 r.2.2.2.2.2.2.2.2.1 r.2.2.2.2.2.2.2.2.2.1 r.2.2.2.2.2.2.2.2.2.2.1 r.2.2.2.2.2.2.2.2.2.2.2.1 r.2.2.2.2.2.2.2.2.2.2.2.2.1 r.2.2.2.2.2.2.2.2.2.2.2.2.2 q_wall_readAt q_wall_meant q_wall_readSo s2) ∨ (r.1 = nI k ∧ v3 = nI 0 ∧ k < M))
  | _, _, 0, _, _, _, _, _, _, _, _, _, _, _, _, _, _, _, _, _, _, _, _, h, _, _, _, _ => absurd h (Nat.not_lt_zero _)
  | _, _, 1, _, _, _, _, _, _, _, _, _, _, _, _, _, _, _, _, _, _, _, _, h, _, _, _, _ => absurd h (by omega)
  | 0, i, n + 2, wi, hi, sl, te, le, re, ki, pa, py, rf, ow, li, sh, s, st, said, nu, fl, wo, h1, h2, I, R, W, io => by
    obtain rfl : i = M := by omega
    have h8 := t8_K (tl := tl) (b := b) (k := qI tl b i)
    rw [X4_tellTo_L2, if_pos (by rw [pz_le (by omega) (by omega)]; omega), X8_read_L62, if_pos (by rw [h8.2.1.2 hend]; rfl)]
    exact ⟨_, _, _, _, _, _, _, _, _, i, 1, rfl, rfl, Or.inl ⟨rfl, rfl, rfl, s, I, R, W⟩⟩
  | m + 1, i, n + 2, wi, hi, sl, te, le, re, ki, pa, py, rf, ow, li, sh, s, st, said, nu, fl, wo, h1, h2, I, R, W, io => by
    have h8 := t8_K (tl := tl) (b := b) (k := qI tl b i)
    have gi := hg i (by omega)
    have hq := qI_le hg i (by omega)
    have hw := tV_word gi.1
    obtain ⟨t1, t2⟩ := hT i (by omega)
    obtain ⟨r8, e8, e82⟩ := x8_readItem (fl := fl) (said := said) X hf hq io
    have htok : ¬ nI (t8 tl b (qI tl b i)) = 0 := by
      rw [pz_c0, pz_eq (by omega) (by omega)]
      intro q
      have := h8.2.1.1 q
      rw [gi.1] at this
      omega
    rcases e82 with ⟨-, said2, nu2, wo2, f2, f3, f4⟩ | ⟨f, -⟩
    · subst f2
      obtain ⟨t, u, s2, et, eu, e1, hI, hR, hW⟩ := tell1 (V := fun j => iV tl b j (tE tl b (qI tl b i))) (num := num) (said := said2) hf I W R hw (show i < 100 by omega) (fun j hj => ⟨t2 j hj, f4 j hj, iV_lt _ _ _ gi.2 hj⟩)
      rw [X4_tellTo_L2, if_neg (by rw [pz_le (by omega) (by omega)]; omega), pz_rd _ _ (by omega) (by omega), t1, show nI i * 3 = nI (i * 3) from by rw [pz_c3, pk_mul], et, pz_bind, X8_read_L62, if_neg htok, if_neg (show ¬ (1 : Int32) = 0 by decide), e8, pz_bind]
      try simp only
      rw [eu, pz_bind]
      rcases e1 with ⟨g1, g2⟩ | ⟨g1, g2, g3⟩
      · have hJ : ∃ cu2 start2 tk2 nu3 wo3 fl2 st2 said3, X8_read_J92 fu (X8_read_L62 fu ts before text (n + 1)) ts (nI (tE tl b (zI tl b (qI tl b i)))) (nI (tP tl b (zI tl b (qI tl b i)))) (nI (t8 tl b (zI tl b (qI tl b i)))) nu2 wo2 (-1) u.2 before text said2 u.1 0 (nI i) = X8_read_J97 fu ts cu2 start2 tk2 nu3 wo3 fl2 st2 before text said3 (nI i) (nI 0) := by
          rw [X8_read_J92, g2, pz_c0, nI_add, X8_read_L62]
          by_cases q : nI (t8 tl b (zI tl b (qI tl b i))) = 0
          · rw [if_pos q]; exact ⟨_, _, _, _, _, _, _, _, rfl⟩
          · rw [if_neg q, if_pos (show nI 0 = 0 from rfl)]; exact ⟨_, _, _, _, _, _, _, _, rfl⟩
        obtain ⟨cu2, start2, tk2, nu3, wo3, fl2, st2, said3, hJ⟩ := hJ
        rw [if_pos g2, hJ]
        refine ⟨(nI i, t.2), cu2, start2, tk2, nu3, wo3, fl2, st2, said3, i, nI 0, ?_, rfl, Or.inr ⟨rfl, rfl, by omega⟩⟩
        rw [X4_tellTo_J43]
        rcases g1 with g | g | g
        · rw [if_pos g]
        · rw [if_neg (by rw [g]; decide), if_pos g]
        · rw [if_neg (by rw [g]; decide), if_neg (by rw [g]; decide), if_pos g]
      · obtain ⟨o1, o2, o3, -⟩ := OK_ne g1
        rw [if_neg o1, if_neg o2, if_neg o3, if_neg g2, X8_read_J92, g3, nI_1]
        exact tellOn hf X hm hg hend hT m (i + 1) (n + 1) _ _ _ _ _ _ _ _ _ _ _ _ _ s2 u.2 said2 nu2 (-1) wo2 (by omega) (by omega) hI hR hW f3
    · exact absurd gi f
theorem x8_back {cu st tk nu fl v2 : Int32} {wo : Int64} {s0 said : Nat → Int32} (hf : 5000 ≤ fu) : ∃ u, X8_read_J97 fu ts cu st tk nu wo fl s0 before text said v2 0 = some u ∧ u.1 = -1000 - v2 ∧ ∀ k, k < 354 → u.2.2.2.2.2.2.2.1 k = before k := by
  rw [X8_read_J97]
  refine pz_rel (fun n k (a : Nat → Int32) => X8_read_L100 fu ts cu st tk nu wo fl before text said v2 0 n a (nI k)) (fun k a => ∀ j, j < k → a j = before j) 354 (fun u => u.1 = -1000 - v2 ∧ ∀ k, k < 354 → u.2.2.2.2.2.2.2.1 k = before k) (fun n k a hk ha => ?_) (fun n a ha => ?_) fu 0 s0 (by omega) (by omega) (fun j hj => absurd hj (Nat.not_lt_zero j))
  · right
    refine ⟨upd a k (before k), fun j hj => ?_, ?_⟩
    · by_cases g : j = k
      · rw [g, pk_us]
      · rw [pk_un g, ha j (by omega)]
    · try simp only
      rw [X8_read_L100]
      generalize X8_read_L100 fu ts cu st tk nu wo fl before text said v2 0 n = rec
      rw [if_neg (by rw [pz_c354, pz_le (by decide) (by omega)]; omega), if_pos rfl, pz_rd _ _ (by omega) (by omega), pz_ck _ (by omega) (by omega), pz_cl (by omega), nI_1]
  · try simp only
    rw [X8_read_L100, if_pos (by decide +kernel), X8_read_J132, if_pos rfl]
    exact ⟨_, rfl, rfl, ha⟩
theorem x8_keep {cu st tk nu fl v2 : Int32} {wo : Int64} {s0 said : Nat → Int32} (hf : 5000 ≤ fu) : ∃ u, X8_read_J97 fu ts cu st tk nu wo fl s0 before text said v2 (nI 1) = some u ∧ u.1 = v2 ∧ u.2.2.2.2.2.2.2.1 = s0 := by
  obtain ⟨n, hn⟩ : ∃ n, fu = n + 1 := ⟨fu - 1, by omega⟩
  have e : ∀ n, X8_read_L100 fu ts cu st tk nu wo fl before text said v2 (nI 1) (n + 1) s0 0 = some (v2, cu, st, tk, nu, wo, fl, s0, before, said) := fun n => by
    rw [X8_read_L100, if_neg (by decide), if_neg (by decide), X8_read_J132, if_neg (by decide)]
  rw [X8_read_J97]
  have e2 := e n
  rw [← hn] at e2
  exact ⟨(v2, cu, st, tk, nu, wo, fl, s0, before, said), e2, rfl, rfl⟩
theorem x8_copyOn {cu st tk nu fl : Int32} {wo : Int64} {s0 said be : Nat → Int32} (hf : 5000 ≤ fu) : ∃ a, (∀ j, j < 354 → a j = s0 j) ∧ X8_read_L17 fu ts cu st tk nu wo fl s0 text said fu be 0 = ((f_X8_anew fu s0 12 5).bind fun t46 => (f_X8_next fu ts 0 st tk nu wo text).bind fun t59 => X8_read_L62 fu ts a text fu t59.1 t59.2.1 t59.2.2.1 t59.2.2.2.1 t59.2.2.2.2 fl t46 said 0 1) := by
  refine pz_relC (fun n k (a : Nat → Int32) => X8_read_L17 fu ts cu st tk nu wo fl s0 text said n a (nI k)) (fun k a => ∀ j, j < k → a j = s0 j) 354 (fun a => (f_X8_anew fu s0 12 5).bind fun t46 => (f_X8_next fu ts 0 st tk nu wo text).bind fun t59 => X8_read_L62 fu ts a text fu t59.1 t59.2.1 t59.2.2.1 t59.2.2.2.1 t59.2.2.2.2 fl t46 said 0 1) (fun n k a hk ha => ?_) (fun n a ha => ?_) fu 0 be (by omega) (by omega) (fun j hj => absurd hj (Nat.not_lt_zero j))
  · refine ⟨upd a k (s0 k), fun j hj => ?_, ?_⟩
    · by_cases g : j = k
      · rw [g, pk_us]
      · rw [pk_un g, ha j (by omega)]
    · try simp only
      rw [X8_read_L17]
      generalize X8_read_L17 fu ts cu st tk nu wo fl s0 text said n = rec
      rw [if_neg (by rw [pz_c354, pz_le (by decide) (by omega)]; omega), pz_rd _ _ (by omega) (by omega), pz_ck _ (by omega) (by omega), pz_cl (by omega), nI_1]
  · try simp only
    rw [X8_read_L17, if_pos (by decide +kernel)]
end
section
variable {fu : Nat} {s : Nat → Nat} {tl : Nat} {b : Nat → Nat}
theorem q_read {q_wall_wide : Int32} {q_wall_high : Int32} {q_wall_slackNow : Int32} {q_wall_tenants : Int32} {q_wall_letters : Int32} {q_wall_readings : Int32} {q_wall_kinds : Nat → Int32} {q_wall_painOf : Nat → Int32} {q_wall_payFor : Nat → Int32} {q_wall_refused : Nat → Int32} {q_wall_owned : Nat → Int64} {q_wall_litIn : Nat → Int64} {q_wall_shapes : Nat → Int32} {q_wall_readAt : Nat → Int32} {q_wall_meant : Nat → Int32} {q_wall_readSo : Nat → Int32} {u_st u_refused u_ones : Nat → Int32} {q_wereBad q_wereNo q_wereFull : Int32} {q_planned_wide : Int32} {q_planned_high : Int32} {q_planned_slackNow : Int32} {q_planned_tenants : Int32} {q_planned_letters : Int32} {q_planned_readings : Int32} {q_planned_kinds : Nat → Int32} {q_planned_painOf : Nat → Int32} {q_planned_payFor : Nat → Int32} {q_planned_refused : Nat → Int32} {q_planned_owned : Nat → Int64} {q_planned_litIn : Nat → Int64} {q_planned_shapes : Nat → Int32} {q_planned_readAt : Nat → Int32} {q_planned_meant : Nat → Int32} {q_planned_readSo : Nat → Int32} {q_plan_length : Int32} {q_plan_items : Int32} {q_plan_place : Int32} {q_plan_token : Int32} {q_plan_tokenAt : Int32} {q_plan_tokenValue : Int32} {q_plan_bytes : Nat → Int32} {q_plan_words : Nat → Int32} {q_plan_numbers : Nat → Int32} {u_textSize : Int32} {u_cursor : Int32} {u_start : Int32} {u_token : Int32} {u_number : Int32} {u_word : Int64} {u_fault : Int32} {u_before : Nat → Int32} {u_text : Nat → Int32} {u_said : Nat → Int32}  (hf : 5000 ≤ fu) (I : Iv s) (W : WR q_wall_wide q_wall_high q_wall_slackNow q_wall_tenants q_wall_letters q_wall_readings q_wall_kinds q_wall_painOf q_wall_payFor q_wall_refused q_wall_owned q_wall_litIn q_wall_shapes q_wall_readAt q_wall_meant q_wall_readSo s) (R : SR u_st s) (hS : SS u_refused q_wereBad q_wereNo q_wereFull) (X : TX tl b q_plan_length q_plan_bytes u_textSize u_text) : ∃ r u s2, f_X7_read fu q_wall_wide q_wall_high q_wall_slackNow q_wall_tenants q_wall_letters q_wall_readings q_wall_kinds q_wall_painOf q_wall_payFor q_wall_refused q_wall_owned q_wall_litIn q_wall_shapes q_wall_readAt q_wall_meant q_wall_readSo q_planned_wide q_planned_high q_planned_slackNow q_planned_tenants q_planned_letters q_planned_readings q_planned_kinds q_planned_painOf q_planned_payFor q_planned_refused q_planned_owned q_planned_litIn q_planned_shapes q_planned_readAt q_planned_meant q_planned_readSo q_plan_length q_plan_items q_plan_place q_plan_token q_plan_tokenAt q_plan_tokenValue q_plan_bytes q_plan_words q_plan_numbers = some r ∧ f_X8_read fu u_textSize u_cursor u_start u_token u_number u_word u_fault u_st u_before u_text u_said = some u ∧ r.1 = u.1 ∧ Iv s2 ∧ SR u.2.2.2.2.2.2.2.1 s2 ∧ WR r.2.1 r.2.2.1 r.2.2.2.1 r.2.2.2.2.1 r.2.2.2.2.2.1 r.2.2.2.2.2.2.1 r.2.2.2.2.2.2.2.1 r.2.2.2.2.2.2.2.2.1 r.2.2.2.2.2.2.2.2.2.1 r.2.2.2.2.2.2.2.2.2.2.1 r.2.2.2.2.2.2.2.2.2.2.2.1 r.2.2.2.2.2.2.2.2.2.2.2.2.1 r.2.2.2.2.2.2.2.2.2.2.2.2.2.1 r.2.2.2.2.2.2.2.2.2.2.2.2.2.2.1 r.2.2.2.2.2.2.2.2.2.2.2.2.2.2.2.1 r.2.2.2.2.2.2.2.2.2.2.2.2.2.2.2.2.1 s2 := by
  obtain ⟨M, p, hm, ep, hg, hM, hp⟩ := x4_parse (it := q_plan_items) (pl := q_plan_place) (tk := q_plan_token) (ta := q_plan_tokenAt) (tv := q_plan_tokenValue) (wd := q_plan_words) (num := q_plan_numbers) X hf
  have hq := qI_le hg
  obtain ⟨f, ef, f1⟩ := x8_findFault (M := M) (cu := u_cursor) (st := u_start) (tk := u_token) (nu := u_number) (fl := u_fault) (wo := u_word) (said := u_said) X hf hm hg hM hq (by
    rcases hp with ⟨g, -⟩ | ⟨g, g2, -⟩
    · exact Or.inl g
    · exact Or.inr ⟨g, g2⟩)
  rw [f_X7_read, f_X8_read, ep, pz_bind, ef, pz_bind]
  rcases hp with ⟨g, p1, p2, p3⟩ | ⟨g, g2, p1⟩
  · rw [if_pos g] at f1
    obtain ⟨a, a1, a2⟩ := x8_copyOn (fu := fu) (ts := u_textSize) (text := u_text) (cu := f.2.1) (st := f.2.2.1) (tk := f.2.2.2.1) (nu := f.2.2.2.2.1) (wo := f.2.2.2.2.2.1) (fl := f.2.2.2.2.2.2.1) (s0 := u_st) (said := f.2.2.2.2.2.2.2) (be := u_before) hf
    obtain ⟨rn, en, hN⟩ := x8_anew (fu := fu) (st := u_st) (w := 12) (h := 5) hf (by decide) (by decide)
    obtain ⟨nu2, wo2, e0, io⟩ := x8_next (st := f.2.2.1) (tk := f.2.2.2.1) (nu := f.2.2.2.2.1) (wo := f.2.2.2.2.2.1) X hf (Nat.zero_le tl)
    obtain ⟨li, el, hL⟩ := x5_beAnew (fu := fu) (a := q_planned_wide) (b := q_planned_high) (c := q_planned_slackNow) (d := q_planned_tenants) (e := q_planned_letters) (f := q_planned_readings) (li := q_planned_litIn) (w := 12) (h := 5) hf
    obtain ⟨r, cu2, start2, tk2, nu3, wo3, fl2, st2, said2, k, v3, et, eu, h⟩ := tellOn (before := a) (q_wall_readAt := q_planned_readAt) (q_wall_meant := q_planned_meant) (q_wall_readSo := q_planned_readSo) hf X hm hg g p3 M 0 fu (nI 12) (nI 5) (nI 0) (nI 0) (nI 0) (nI 0) q_planned_kinds q_planned_painOf q_planned_payFor q_planned_refused q_planned_owned li q_planned_shapes (AN 12 5) rn f.2.2.2.2.2.2.2 nu2 f.2.2.2.2.2.2.1 wo2 (by omega) (by omega) (Iv_AN ⟨by omega, by omega⟩ ⟨by omega, by omega⟩) hN (WR_AN hL) io
    rw [if_pos p1, if_pos f1, a2, show f_X8_anew fu u_st 12 5 = some rn from en, pz_bind, show f_X8_next fu u_textSize 0 f.2.2.1 f.2.2.2.1 f.2.2.2.2.1 f.2.2.2.2.2.1 u_text = _ from e0, pz_bind, show f_X5_beAnew fu q_planned_wide q_planned_high q_planned_slackNow q_planned_tenants q_planned_letters q_planned_readings q_planned_litIn 12 5 = _ from el, pz_bind, f_X4_tellTo, p2]
    try simp only
    rw [show X8_read_L62 fu u_textSize a u_text fu (nI (tE tl b 0)) (nI (tP tl b 0)) (nI (t8 tl b 0)) nu2 wo2 f.2.2.2.2.2.2.1 rn f.2.2.2.2.2.2.2 0 1 = _ from eu, show X4_tellTo_L2 fu (nI M) p.2.2.2.2.2.2.1 p.2.2.2.2.2.2.2 fu (nI 12) (nI 5) (nI 0) (nI 0) (nI 0) (nI 0) q_planned_kinds q_planned_painOf q_planned_payFor q_planned_refused q_planned_owned li q_planned_shapes 0 = some r from et, pz_bind]
    rcases h with ⟨r1, rfl, rfl, s2, hI, hR, hW⟩ | ⟨r1, rfl, hk⟩
    · obtain ⟨u, e1, e2, e3⟩ := x8_keep (fu := fu) (ts := u_textSize) (text := u_text) (before := a) (cu := cu2) (st := start2) (tk := tk2) (nu := nu3) (wo := wo3) (fl := fl2) (s0 := st2) (said := said2) (v2 := nI k) hf
      rw [e1, if_pos r1, f_X5_beLike, pz_bind]
      exact ⟨_, _, s2, rfl, rfl, e2.symm, hI, by rw [e3]; exact hR, WR_cpy hI hW⟩
    · obtain ⟨u, e1, e2, e3⟩ := x8_back (fu := fu) (ts := u_textSize) (text := u_text) (before := a) (cu := cu2) (st := start2) (tk := tk2) (nu := nu3) (wo := wo3) (fl := fl2) (s0 := st2) (said := said2) (v2 := nI k) hf
      rw [show X8_read_J97 fu u_textSize cu2 start2 tk2 nu3 wo3 fl2 st2 a u_text said2 (nI k) (nI 0) = some u from e1, r1, if_neg (by rw [show (-1 : Int32) = -nI 1 from rfl, pz_eqm (by omega) (by decide) (by decide)]; exact id)]
      exact ⟨_, _, s, rfl, rfl, e2.symm, I, fun j hj => by rw [e3 j hj, a1 j hj, R j hj], W⟩
  · have hl := fI_le (b := b) hM
    have x3 := X.2.2.1
    rw [if_neg g] at f1
    have hne : ¬ nI (fI tl b (qI tl b M)) = -1 := by
      rw [show (-1 : Int32) = -nI 1 from rfl, pz_eqm (by omega) (by decide) (by decide)]; exact id
    rw [p1, f1, if_neg hne, if_neg hne]
    exact ⟨_, _, s, rfl, rfl, rfl, I, R, W⟩
end
