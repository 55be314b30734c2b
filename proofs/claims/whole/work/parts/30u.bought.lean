/-! BOUGHT, CAN, BARS: both answer alike -/
section
variable {fu : Nat} {s : Nat → Nat} {st rf ones rt en iw co : Nat → Int32} {h w : Nat}
theorem bo_boxes {line v3 : Int32} (hf : 5000 ≤ fu) (I : Iv s) (R : SR st s) (hT : ∀ k, k < 4096 → rt k = eI (rd s k)) (hh : h < 4) (hw : okW s w) : ∃ b : (Nat → Int32) × (Nat → Int32), EO s h w b.1 (wl w) ∧ X8_bought_L38 fu line st rf ones rt co (nI w) (nI h) v3 fu en iw (nI 0) = X8_bought_L94 fu st rf ones rt b.1 b.2 (nI w) v3 fu line co (-1) 0 := by
  have hr := wl_rng w
  have hw6 : w ≤ 666 := hw.2.1
  refine pz_relC (fun n i (a : (Nat → Int32) × (Nat → Int32)) => X8_bought_L38 fu line st rf ones rt co (nI w) (nI h) v3 n a.1 a.2 (nI i)) (fun i a => EO s h w a.1 i) (wl w) (fun b => X8_bought_L94 fu st rf ones rt b.1 b.2 (nI w) v3 fu line co (-1) 0) (fun n i a hi ha => ?_) (fun n a ha => ?_) fu 0 (en, iw) (by omega) (by omega) (fun i hi => absurd hi (Nat.not_lt_zero i))
  · have step : ∃ b : (Nat → Int32) × (Nat → Int32), (EO s h w b.1 i ∧ ∀ d, d < 24 → boxB s d = true → ∀ set, set < 64 → b.1 (64 * (24 * i + d) + set) = bI (FT s h w set (wd w i) d)) ∧ X8_bought_L50 fu (X8_bought_L38 fu line st rf ones rt co (nI w) (nI h) v3 n) line st rf ones rt co (nI w) (nI h) v3 (nI i) fu a.1 a.2 (nI 0) = X8_bought_L38 fu line st rf ones rt co (nI w) (nI h) v3 n b.1 b.2 (nI (i + 1)) := by
      refine pz_relC (fun n2 c (b : (Nat → Int32) × (Nat → Int32)) => X8_bought_L50 fu (X8_bought_L38 fu line st rf ones rt co (nI w) (nI h) v3 n) line st rf ones rt co (nI w) (nI h) v3 (nI i) n2 b.1 b.2 (nI c)) (fun c b => EO s h w b.1 i ∧ ∀ d, d < c → boxB s d = true → ∀ set, set < 64 → b.1 (64 * (24 * i + d) + set) = bI (FT s h w set (wd w i) d)) 24 (fun b => X8_bought_L38 fu line st rf ones rt co (nI w) (nI h) v3 n b.1 b.2 (nI (i + 1))) (fun m c b hc hb => ?_) (fun m b hb => ?_) fu 0 a (by omega) (by omega) ⟨ha, fun d hd => absurd hd (Nat.not_lt_zero d)⟩
      · try simp only
        rw [X8_bought_L50]
        generalize X8_bought_L50 fu (X8_bought_L38 fu line st rf ones rt co (nI w) (nI h) v3 n) line st rf ones rt co (nI w) (nI h) v3 (nI i) m = rec50
        generalize X8_bought_L38 fu line st rf ones rt co (nI w) (nI h) v3 n = rec38
        cases hbx : boxB s c
        · refine ⟨b, ⟨hb.1, fun d hd hdb => ?_⟩, ?_⟩
          · rcases Nat.lt_or_ge d c with q | q
            · exact hb.2 d q hdb
            · obtain rfl : d = c := by omega
              rw [hbx] at hdb; cases hdb
          · simp (disch := omega) only [x8_isBox I R, vN_n, hbx, X8_bought_J76, pz_c0, pz_c1, pz_c2, pz_c3, pz_c4, pz_c5, pz_c6, pz_c7, pz_c8, pz_c9, pz_c10, pz_c11, pz_c12, pz_c13, pz_c14, pz_c15, pz_c16, pz_c17, pz_c18, pz_c19, pz_c20, pz_c21, pz_c22, pz_c23, pz_c24, pz_c25, pz_c26, pz_c27, pz_c28, pz_c29, pz_c30, pz_c31, pz_c32, pz_c33, pz_c34, pz_c35, pz_c36, pz_c42, pz_c48, pz_c57, pz_c59, pz_c60, pz_c63, pz_c64, pz_c66, pz_c96, pz_c97, pz_c99, pz_c100, pz_c122, pz_c127, pz_c128, pz_c200, pz_c255, pz_c299, pz_c300, pz_c336, pz_c354, pz_c585, pz_c666, pz_c708, pz_c1000, pz_c1170, pz_c4095, pz_c4096, pz_c4608, pz_c1000000, nI_add, pk_mul, pk_sub, pz_sub, pk_div, pz_or, pz_and, pz_xor, pz_n31, pz_shl, pz_shr, pz_eq, pz_le, pz_lt, pz_eqm, pz_meq, pz_mmeq, pz_lem, pz_mle, pz_ltm, pz_mlt, pz_mmle, pz_mmlt, pz_rd, pz_ck, pz_let, pz_cl, pz_bind, pz_gd, pz_zbb, eI_of, eI_N, pz_leT, pz_leF, pz_ltT, pz_ltF, pz_eqT, pz_eqF, if_pos, if_neg, if_true, if_false, ite_true, ite_false, pz_b0, pz_b1i, pz_bf, pz_bt, Bool.false_eq_true, Bool.true_eq_false, decide_true, decide_false, and_true, and_false, true_and, false_and, and_self, or_true, or_false, true_or, false_or, or_self, not_true_eq_false, not_false_eq_true, ne_eq, reduceIte, eq_self, upd_at]
        · have hc2 := boxB_lt I hbx
          obtain ⟨r, e, g1, g2⟩ := x8_findEnough (fu := fu) (en := b.1) (iw := b.2) hf I R hT hh hc2 hw hi
          refine ⟨r, ⟨fun i' hi' d hd set hset => ?_, fun d hd hdb set hset => ?_⟩, ?_⟩
          · have hd2 := boxB_lt I hd
            rw [g2 _ (by omega)]
            exact hb.1 i' hi' d hd set hset
          · rcases Nat.lt_or_ge d c with q | q
            · rw [g2 _ (by omega)]
              exact hb.2 d q hdb set hset
            · obtain rfl : d = c := by omega
              exact g1 set hset
          · simp (disch := omega) only [x8_isBox I R, vN_n, hbx, X8_bought_J76, e, pz_c0, pz_c1, pz_c2, pz_c3, pz_c4, pz_c5, pz_c6, pz_c7, pz_c8, pz_c9, pz_c10, pz_c11, pz_c12, pz_c13, pz_c14, pz_c15, pz_c16, pz_c17, pz_c18, pz_c19, pz_c20, pz_c21, pz_c22, pz_c23, pz_c24, pz_c25, pz_c26, pz_c27, pz_c28, pz_c29, pz_c30, pz_c31, pz_c32, pz_c33, pz_c34, pz_c35, pz_c36, pz_c42, pz_c48, pz_c57, pz_c59, pz_c60, pz_c63, pz_c64, pz_c66, pz_c96, pz_c97, pz_c99, pz_c100, pz_c122, pz_c127, pz_c128, pz_c200, pz_c255, pz_c299, pz_c300, pz_c336, pz_c354, pz_c585, pz_c666, pz_c708, pz_c1000, pz_c1170, pz_c4095, pz_c4096, pz_c4608, pz_c1000000, nI_add, pk_mul, pk_sub, pz_sub, pk_div, pz_or, pz_and, pz_xor, pz_n31, pz_shl, pz_shr, pz_eq, pz_le, pz_lt, pz_eqm, pz_meq, pz_mmeq, pz_lem, pz_mle, pz_ltm, pz_mlt, pz_mmle, pz_mmlt, pz_rd, pz_ck, pz_let, pz_cl, pz_bind, pz_gd, pz_zbb, eI_of, eI_N, pz_leT, pz_leF, pz_ltT, pz_ltF, pz_eqT, pz_eqF, if_pos, if_neg, if_true, if_false, ite_true, ite_false, pz_b0, pz_b1i, pz_bf, pz_bt, Bool.false_eq_true, Bool.true_eq_false, decide_true, decide_false, and_true, and_false, true_and, false_and, and_self, or_true, or_false, true_or, false_or, or_self, not_true_eq_false, not_false_eq_true, ne_eq, reduceIte, eq_self, upd_at]
      · try simp only
        rw [X8_bought_L50]
        generalize X8_bought_L50 fu (X8_bought_L38 fu line st rf ones rt co (nI w) (nI h) v3 n) line st rf ones rt co (nI w) (nI h) v3 (nI i) m = rec50
        generalize X8_bought_L38 fu line st rf ones rt co (nI w) (nI h) v3 n = rec38
        simp (disch := omega) only [pz_c0, pz_c1, pz_c2, pz_c3, pz_c4, pz_c5, pz_c6, pz_c7, pz_c8, pz_c9, pz_c10, pz_c11, pz_c12, pz_c13, pz_c14, pz_c15, pz_c16, pz_c17, pz_c18, pz_c19, pz_c20, pz_c21, pz_c22, pz_c23, pz_c24, pz_c25, pz_c26, pz_c27, pz_c28, pz_c29, pz_c30, pz_c31, pz_c32, pz_c33, pz_c34, pz_c35, pz_c36, pz_c42, pz_c48, pz_c57, pz_c59, pz_c60, pz_c63, pz_c64, pz_c66, pz_c96, pz_c97, pz_c99, pz_c100, pz_c122, pz_c127, pz_c128, pz_c200, pz_c255, pz_c299, pz_c300, pz_c336, pz_c354, pz_c585, pz_c666, pz_c708, pz_c1000, pz_c1170, pz_c4095, pz_c4096, pz_c4608, pz_c1000000, nI_add, pk_mul, pk_sub, pz_sub, pk_div, pz_or, pz_and, pz_xor, pz_n31, pz_shl, pz_shr, pz_eq, pz_le, pz_lt, pz_eqm, pz_meq, pz_mmeq, pz_lem, pz_mle, pz_ltm, pz_mlt, pz_mmle, pz_mmlt, pz_rd, pz_ck, pz_let, pz_cl, pz_bind, pz_gd, pz_zbb, eI_of, eI_N, pz_leT, pz_leF, pz_ltT, pz_ltF, pz_eqT, pz_eqF, if_pos, if_neg, if_true, if_false, ite_true, ite_false, pz_b0, pz_b1i, pz_bf, pz_bt, Bool.false_eq_true, Bool.true_eq_false, decide_true, decide_false, and_true, and_false, true_and, false_and, and_self, or_true, or_false, true_or, false_or, or_self, not_true_eq_false, not_false_eq_true, ne_eq, reduceIte, eq_self, upd_at]
    obtain ⟨b, hb, e⟩ := step
    refine ⟨b, fun i' hi' c hc => ?_, ?_⟩
    · rcases Nat.lt_or_ge i' i with q | q
      · exact hb.1 i' q c hc
      · obtain rfl : i' = i := by omega
        exact hb.2 c (by have := boxB_lt I hc; omega) hc
    · have e2 := pz_le (show wl w < 2 ^ 31 by omega) (show i < 2 ^ 31 by omega)
      try simp only
      rw [X8_bought_L38, x8_longOf (by omega), pz_bind, if_neg (by rw [e2]; omega)]
      exact e
  · try simp only
    have e2 := pz_le (show wl w < 2 ^ 31 by omega) (show wl w < 2 ^ 31 by omega)
    rw [X8_bought_L38, x8_longOf (by omega), pz_bind, if_pos (by rw [e2]; omega)]
theorem BG_q (I : Iv s) (k : Nat) : ((BG s h w k).1 = 65535 ∧ (BG s h w k).2 = 65535) ∨ ((BG s h w k).1 ≤ 594 ∧ (BG s h w k).2 < k ∧ payN s (BG s h w k).2 (s 2) = (BG s h w k).1) := by
  have hb := best_spec (f := bgF s h w) k (fun q _ => by rcases bgF_rng (h := h) (w := w) (set := q) I with g | g <;> omega)
  rcases hb with ⟨a, b, -⟩ | ⟨a, b, c, -⟩
  · exact Or.inl ⟨a, b⟩
  · right
    have hrn := bgF_rng (h := h) (w := w) (set := (best (bgF s h w) k).2) I
    refine ⟨by show (best (bgF s h w) k).1 ≤ 594; omega, b, ?_⟩
    show payN s (best (bgF s h w) k).2 (s 2) = (best (bgF s h w) k).1
    have key : ∀ x, bgF s h w x < 65535 → payN s x (s 2) = bgF s h w x := by
      intro x hx
      unfold bgF at hx ⊢
      split at hx
      · rename_i g
        rw [if_pos g]
      · omega
    rw [key _ (by omega), c]
theorem bg_step {k : Nat} : BG s h w (k + 1) = if said s h w k = true ∧ payN s k (s 2) < (BG s h w k).1 then (payN s k (s 2), k) else BG s h w k := by
  show best (bgF s h w) (k + 1) = _
  rw [best]
  by_cases g : said s h w k = true
  · have e : bgF s h w k = payN s k (s 2) := by rw [bgF, if_pos g]
    rw [e]
    by_cases g2 : payN s k (s 2) < (best (bgF s h w) k).1
    · rw [if_pos g2, if_pos ⟨g, g2⟩]
    · rw [if_neg g2, if_neg (fun q => g2 q.2)]; rfl
  · have e : bgF s h w k = 65535 := by rw [bgF, if_neg g]
    have hle : ∀ n, (best (bgF s h w) n).1 ≤ 65535 := by
      intro n
      induction n with
      | zero => exact Nat.le_refl _
      | succ n ih =>
        rw [best]
        split
        · simp only; omega
        · exact ih
    rw [e, if_neg (by have := hle k; omega), if_neg (fun q => g q.1)]; rfl
def bgA (s : Nat → Nat) (h w : Nat) (v3 : Int32) (k : Nat) : Int32 := if v3 = 0 then eI (BG s h w k).1 else eI (BG s h w k).2
theorem shl_le {n : Nat} (h : n ≤ 6) : (1 : Nat) <<< n ≤ 64 ∧ 1 ≤ (1 : Nat) <<< n := by
  have : ∀ n, n < 7 → (1 : Nat) <<< n ≤ 64 ∧ 1 ≤ (1 : Nat) <<< n := by decide
  exact this n (by omega)
theorem bo_sets {line v3 : Int32} (hf : 5000 ≤ fu) (I : Iv s) (R : SR st s) (hw : okW s w) (hE : EO s h w en (wl w)) : ∃ r, X8_bought_L94 fu st rf ones rt en iw (nI w) v3 fu line co (-1) 0 = some r ∧ r.1 = bgA s h w v3 (1 <<< s 2) ∧ r.2.2.1 = rf := by
  have i2 := I.2.2.1
  have hd := SR_hd I R
  have hs2 := shl_le i2
  refine pz_rel (fun n k (a : Int32 × (Nat → Int32) × Int32) => X8_bought_L94 fu st rf ones rt en iw (nI w) v3 n a.1 a.2.1 a.2.2 (nI k)) (fun k a => a.2.2 = eI (BG s h w k).2) (1 <<< s 2) _ (fun n k a hk ha => ?_) (fun n a ha => ?_) fu 0 (line, co, -1) (by omega) (by omega) rfl
  · right
    obtain ⟨a1, a2, a3⟩ := a
    simp only at ha
    subst ha
    obtain ⟨r, e, g1⟩ := x8_canBy (fu := fu) (l0 := a1) (co := a2) (set := k) hf I R hw hE (by omega)
    have p1 := x8_payOf (fu := fu) (set := k) hf I R (by omega)
    have hpl := payN_le (set := k) I (s 2) (Nat.le_refl _)
    have hq := BG_q (s := s) (h := h) (w := w) I k
    have hst := bg_step (s := s) (h := h) (w := w) (k := k)
    have hcmp : ¬ ((1 : Int32) <<< (st 2 &&& 31)) ≤ nI k := by
      rw [hd.2.2.1, pz_c1, pz_c31, pz_and, pz_n31 (by omega), pz_shl _ (by omega), pz_le (by omega) (by omega)]
      omega
    rcases hq with ⟨q1, q2⟩ | ⟨q1, q2, q3⟩
    · by_cases hsd : said s h w k = true
      · refine ⟨(r.2.1, r.2.2, nI k), ?_, ?_⟩
        · rw [hst, if_pos ⟨hsd, by omega⟩, eI_of (by simp only; omega)]
        · try simp only
          rw [X8_bought_L94]
          generalize X8_bought_L94 fu st rf ones rt en iw (nI w) v3 n = rec
          rw [if_neg hcmp, q2, eI_N, if_pos (show -nI 1 = -1 from rfl), X8_bought_J128, e, pz_bind, g1, hsd, if_neg b_t, X8_bought_J142, nI_1]
      · refine ⟨(r.2.1, r.2.2, eI (BG s h w k).2), ?_, ?_⟩
        · rw [hst, if_neg (fun q => hsd q.1)]
        · rw [Bool.not_eq_true] at hsd
          try simp only
          rw [X8_bought_L94]
          generalize X8_bought_L94 fu st rf ones rt en iw (nI w) v3 n = rec
          rw [if_neg hcmp, q2, eI_N, if_pos (show -nI 1 = -1 from rfl), X8_bought_J128, e, pz_bind, g1, hsd, if_pos b_f, X8_bought_J142, nI_1]
    · have p2 := x8_payOf (fu := fu) (set := (BG s h w k).2) hf I R (by omega)
      have ne1 : ¬ nI (BG s h w k).2 = -1 := by rw [pz_c1, pz_eqm (by omega) (by decide) (by decide)]; exact id
      by_cases hlt : payN s k (s 2) < (BG s h w k).1
      · have hcm2 : ¬ nI (payN s (BG s h w k).2 (s 2)) ≤ nI (payN s k (s 2)) := by rw [pz_le (by omega) (by omega)]; omega
        by_cases hsd : said s h w k = true
        · refine ⟨(r.2.1, r.2.2, nI k), ?_, ?_⟩
          · rw [hst, if_pos ⟨hsd, hlt⟩, eI_of (by simp only; omega)]
          · try simp only
            rw [X8_bought_L94]
            generalize X8_bought_L94 fu st rf ones rt en iw (nI w) v3 n = rec
            rw [if_neg hcmp, eI_of (by omega), if_neg ne1, p1, pz_bind, p2, pz_bind, if_neg hcm2, X8_bought_J128, e, pz_bind, g1, hsd, if_neg b_t, X8_bought_J142, nI_1]
        · refine ⟨(r.2.1, r.2.2, eI (BG s h w k).2), ?_, ?_⟩
          · rw [hst, if_neg (fun q => hsd q.1)]
          · rw [Bool.not_eq_true] at hsd
            try simp only
            rw [X8_bought_L94]
            generalize X8_bought_L94 fu st rf ones rt en iw (nI w) v3 n = rec
            rw [if_neg hcmp, eI_of (by omega), if_neg ne1, p1, pz_bind, p2, pz_bind, if_neg hcm2, X8_bought_J128, e, pz_bind, g1, hsd, if_pos b_f, X8_bought_J142, nI_1]
      · have hcm2 : nI (payN s (BG s h w k).2 (s 2)) ≤ nI (payN s k (s 2)) := by rw [pz_le (by omega) (by omega)]; omega
        refine ⟨(a1, a2, eI (BG s h w k).2), ?_, ?_⟩
        · rw [hst, if_neg (fun q => hlt q.2)]
        · try simp only
          rw [X8_bought_L94]
          generalize X8_bought_L94 fu st rf ones rt en iw (nI w) v3 n = rec
          rw [if_neg hcmp, eI_of (by omega), if_neg ne1, p1, pz_bind, p2, pz_bind, if_pos hcm2, X8_bought_J142, nI_1]
  · obtain ⟨a1, a2, a3⟩ := a
    simp only at ha
    subst ha
    have hq := BG_q (s := s) (h := h) (w := w) I (1 <<< s 2)
    have hcmp : ((1 : Int32) <<< (st 2 &&& 31)) ≤ nI (1 <<< s 2) := by
      rw [hd.2.2.1, pz_c1, pz_c31, pz_and, pz_n31 (by omega), pz_shl _ (by omega), pz_le (by omega) (by omega)]
      omega
    try simp only
    rw [X8_bought_L94]
    generalize X8_bought_L94 fu st rf ones rt en iw (nI w) v3 n = rec
    rw [if_pos hcmp, bgA]
    rcases hq with ⟨q1, q2⟩ | ⟨q1, q2, q3⟩
    · rw [q2, q1, eI_N, if_pos (show -nI 1 = -1 from rfl), ite_self]
      exact ⟨_, rfl, rfl, rfl⟩
    · have p2 := x8_payOf (fu := fu) (set := (BG s h w (1 <<< s 2)).2) hf I R (by omega)
      have ne1 : ¬ nI (BG s h w (1 <<< s 2)).2 = -1 := by rw [pz_c1, pz_eqm (by omega) (by decide) (by decide)]; exact id
      rw [eI_of (show (BG s h w (1 <<< s 2)).2 < 65535 by omega), eI_of (show (BG s h w (1 <<< s 2)).1 < 65535 by omega), if_neg ne1]
      by_cases h3 : v3 = 0
      · rw [if_pos h3, if_pos h3, p2, pz_bind, q3]
        exact ⟨_, rfl, rfl, rfl⟩
      · rw [if_neg h3, if_neg h3]
        exact ⟨_, rfl, rfl, rfl⟩
theorem x7_sets {wb wn wf v3 al0 : Int32} {kinds painOf payFor refused shapes le : Nat → Int32} {owned litIn : Nat → Int64} {bits : Nat} (hf : 5000 ≤ fu) (I : Iv s) (T : TR s kinds painOf payFor refused owned) (L : LR s litIn) (S : HR s shapes) (hh : h < 4) (hw : okW s w) (hl : LW w bits le) : ∃ r, X7_bought_L34 fu wb wn wf (nI (s 0)) (nI (s 1)) (nI (s 5)) (nI (s 2)) (nI (s 3)) kinds payFor refused owned litIn shapes (nI (wl w)) (nI bits) le (nI h) v3 fu (-1) (-1) 0 = some r ∧ r.1 = bgA s h w v3 (1 <<< s 2) ∧ r.2.1 = wb ∧ r.2.2.1 = wn ∧ r.2.2.2.1 = wf := by
  have i2 := I.2.2.1
  have hs2 := shl_le i2
  refine pz_rel (fun n k (a : Int32 × Int32) => X7_bought_L34 fu wb wn wf (nI (s 0)) (nI (s 1)) (nI (s 5)) (nI (s 2)) (nI (s 3)) kinds payFor refused owned litIn shapes (nI (wl w)) (nI bits) le (nI h) v3 n a.1 a.2 (nI k)) (fun k a => a.1 = eI (BG s h w k).1 ∧ a.2 = eI (BG s h w k).2) (1 <<< s 2) _ (fun n k a hk ha => ?_) (fun n a ha => ?_) fu 0 (-1, -1) (by omega) (by omega) ⟨rfl, rfl⟩
  · right
    obtain ⟨a1, a2⟩ := a
    obtain ⟨h1, h2⟩ := ha
    simp only at h1 h2
    subst h1
    subst h2
    have p1 := x5_payOf (fu := fu) (set := k) hf I T (by omega)
    have e1 := x5_changeable (fu := fu) (w := w) (set := k) (bits := bits) hf I T L hh (by omega) hl.1 hl.2.1
    have e2 := x5_canBeSaid (fu := fu) (set := k) hf I L S hh hw hl.2.2
    have hpl := payN_le (set := k) I (s 2) (Nat.le_refl _)
    have hq := BG_q (s := s) (h := h) (w := w) I k
    have hst := bg_step (s := s) (h := h) (w := w) (k := k)
    have hcmp : ¬ ((1 : Int32) <<< (nI (s 2) &&& 31)) ≤ nI k := by
      rw [pz_c1, pz_c31, pz_and, pz_n31 (by omega), pz_shl _ (by omega), pz_le (by omega) (by omega)]
      omega
    rcases hq with ⟨q1, q2⟩ | ⟨q1, q2, q3⟩
    · by_cases hsd : said s h w k = true
      · refine ⟨(nI (payN s k (s 2)), nI k), ?_, ?_⟩
        · rw [hst, if_pos ⟨hsd, by omega⟩, eI_of (by simp only; omega), eI_of (by simp only; omega)]
          exact ⟨rfl, rfl⟩
        · try simp only
          rw [X7_bought_L34]
          generalize X7_bought_L34 fu wb wn wf (nI (s 0)) (nI (s 1)) (nI (s 5)) (nI (s 2)) (nI (s 3)) kinds payFor refused owned litIn shapes (nI (wl w)) (nI bits) le (nI h) v3 n = rec
          rw [if_neg hcmp, p1, pz_bind, q2, eI_N, if_pos (show -nI 1 = -1 from rfl), X7_bought_J75, e1, pz_bind, e2, pz_bind, hsd, if_neg b_t, X7_bought_J115, nI_1]
      · refine ⟨(eI (BG s h w k).1, eI (BG s h w k).2), ?_, ?_⟩
        · rw [hst, if_neg (fun q => hsd q.1)]
          exact ⟨rfl, rfl⟩
        · rw [Bool.not_eq_true] at hsd
          try simp only
          rw [X7_bought_L34]
          generalize X7_bought_L34 fu wb wn wf (nI (s 0)) (nI (s 1)) (nI (s 5)) (nI (s 2)) (nI (s 3)) kinds payFor refused owned litIn shapes (nI (wl w)) (nI bits) le (nI h) v3 n = rec
          rw [if_neg hcmp, p1, pz_bind, q2, eI_N, if_pos (show -nI 1 = -1 from rfl), X7_bought_J75, e1, pz_bind, e2, pz_bind, hsd, if_pos b_f, X7_bought_J115, nI_1]
    · have ne1 : ¬ nI (BG s h w k).2 = -1 := by rw [pz_c1, pz_eqm (by omega) (by decide) (by decide)]; exact id
      by_cases hlt : payN s k (s 2) < (BG s h w k).1
      · have hcm2 : nI (payN s k (s 2)) < nI (BG s h w k).1 := by rw [pz_lt (by omega) (by omega)]; exact hlt
        by_cases hsd : said s h w k = true
        · refine ⟨(nI (payN s k (s 2)), nI k), ?_, ?_⟩
          · rw [hst, if_pos ⟨hsd, hlt⟩, eI_of (by simp only; omega), eI_of (by simp only; omega)]
            exact ⟨rfl, rfl⟩
          · try simp only
            rw [X7_bought_L34]
            generalize X7_bought_L34 fu wb wn wf (nI (s 0)) (nI (s 1)) (nI (s 5)) (nI (s 2)) (nI (s 3)) kinds payFor refused owned litIn shapes (nI (wl w)) (nI bits) le (nI h) v3 n = rec
            rw [if_neg hcmp, p1, pz_bind, eI_of (show (BG s h w k).2 < 65535 by omega), eI_of (show (BG s h w k).1 < 65535 by omega), if_neg ne1, if_pos hcm2, X7_bought_J75, e1, pz_bind, e2, pz_bind, hsd, if_neg b_t, X7_bought_J115, nI_1]
        · refine ⟨(eI (BG s h w k).1, eI (BG s h w k).2), ?_, ?_⟩
          · rw [hst, if_neg (fun q => hsd q.1)]
            exact ⟨rfl, rfl⟩
          · rw [Bool.not_eq_true] at hsd
            try simp only
            rw [X7_bought_L34]
            generalize X7_bought_L34 fu wb wn wf (nI (s 0)) (nI (s 1)) (nI (s 5)) (nI (s 2)) (nI (s 3)) kinds payFor refused owned litIn shapes (nI (wl w)) (nI bits) le (nI h) v3 n = rec
            rw [if_neg hcmp, p1, pz_bind, eI_of (show (BG s h w k).2 < 65535 by omega), eI_of (show (BG s h w k).1 < 65535 by omega), if_neg ne1, if_pos hcm2, X7_bought_J75, e1, pz_bind, e2, pz_bind, hsd, if_pos b_f, X7_bought_J115, nI_1]
      · have hcm2 : ¬ nI (payN s k (s 2)) < nI (BG s h w k).1 := by rw [pz_lt (by omega) (by omega)]; exact hlt
        refine ⟨(eI (BG s h w k).1, eI (BG s h w k).2), ?_, ?_⟩
        · rw [hst, if_neg (fun q => hlt q.2)]
          exact ⟨rfl, rfl⟩
        · try simp only
          rw [X7_bought_L34]
          generalize X7_bought_L34 fu wb wn wf (nI (s 0)) (nI (s 1)) (nI (s 5)) (nI (s 2)) (nI (s 3)) kinds payFor refused owned litIn shapes (nI (wl w)) (nI bits) le (nI h) v3 n = rec
          rw [if_neg hcmp, p1, pz_bind, eI_of (show (BG s h w k).2 < 65535 by omega), eI_of (show (BG s h w k).1 < 65535 by omega), if_neg ne1, if_neg hcm2, X7_bought_J115, nI_1]
  · obtain ⟨a1, a2⟩ := a
    obtain ⟨h1, h2⟩ := ha
    simp only at h1 h2
    subst h1
    subst h2
    have hcmp : ((1 : Int32) <<< (nI (s 2) &&& 31)) ≤ nI (1 <<< s 2) := by
      rw [pz_c1, pz_c31, pz_and, pz_n31 (by omega), pz_shl _ (by omega), pz_le (by omega) (by omega)]
      omega
    try simp only
    rw [X7_bought_L34]
    generalize X7_bought_L34 fu wb wn wf (nI (s 0)) (nI (s 1)) (nI (s 5)) (nI (s 2)) (nI (s 3)) kinds payFor refused owned litIn shapes (nI (wl w)) (nI bits) le (nI h) v3 n = rec
    rw [if_pos hcmp, bgA]
    by_cases h3 : v3 = 0
    · rw [if_pos h3, if_pos h3]
      exact ⟨_, rfl, rfl, rfl, rfl, rfl⟩
    · rw [if_neg h3, if_neg h3]
      exact ⟨_, rfl, rfl, rfl, rfl, rfl⟩
end
section
variable {fu : Nat} {s : Nat → Nat}
theorem in01 {v : Int32} : (vN v ≤ 1 → ¬ v < 0 ∧ v ≤ 1) ∧ (¬ vN v ≤ 1 → v < 0 ∨ (¬ v < 0 ∧ ¬ v ≤ 1)) := by
  rcases pz_cases v with ⟨a, ha, rfl⟩ | ⟨b, hb0, hb, rfl⟩
  · rw [vN_n ha, pz_c1, pz_le ha (by decide)]
    have := nI_pos ha
    refine ⟨fun q => ⟨this, q⟩, fun q => Or.inr ⟨this, q⟩⟩
  · rw [vN_m hb hb0]
    refine ⟨fun q => absurd q (by decide), fun _ => Or.inl ?_⟩
    rw [pz_c0, pz_mlt (by decide) hb hb0]
    trivial
theorem q_bought {q_wall_wide : Int32} {q_wall_high : Int32} {q_wall_slackNow : Int32} {q_wall_tenants : Int32} {q_wall_letters : Int32} {q_wall_readings : Int32} {q_wall_kinds : Nat → Int32} {q_wall_painOf : Nat → Int32} {q_wall_payFor : Nat → Int32} {q_wall_refused : Nat → Int32} {q_wall_owned : Nat → Int64} {q_wall_litIn : Nat → Int64} {q_wall_shapes : Nat → Int32} {q_wall_readAt : Nat → Int32} {q_wall_meant : Nat → Int32} {q_wall_readSo : Nat → Int32} {u_st u_refused u_ones : Nat → Int32} {q_wereBad q_wereNo q_wereFull : Int32} {q_asked_length : Int32} {q_asked_bits : Int32} {q_asked_letters : Nat → Int32} {u_line : Int32} {u_readTable : Nat → Int32} {u_enough : Nat → Int32} {u_isWanted : Nat → Int32} {u_column : Nat → Int32} (v1 : Int32) (v2 : Int32) (v3 : Int32) (hf : 5000 ≤ fu) (I : Iv s) (W : WR q_wall_wide q_wall_high q_wall_slackNow q_wall_tenants q_wall_letters q_wall_readings q_wall_kinds q_wall_painOf q_wall_payFor q_wall_refused q_wall_owned q_wall_litIn q_wall_shapes q_wall_readAt q_wall_meant q_wall_readSo s) (R : SR u_st s) (hS : SS u_refused q_wereBad q_wereNo q_wereFull) (hO : ∀ k, k < 4096 → u_ones k = nI (pc k)) : ∃ r u, f_X7_bought fu q_wereBad q_wereNo q_wereFull q_wall_wide q_wall_high q_wall_slackNow q_wall_tenants q_wall_letters q_wall_kinds q_wall_payFor q_wall_refused q_wall_owned q_wall_litIn q_wall_shapes q_asked_length q_asked_bits q_asked_letters v1 v2 v3 = some r ∧ f_X8_bought fu u_line u_st u_refused u_ones u_readTable u_enough u_isWanted u_column v1 v2 v3 = some u ∧ r.1 = u.1 ∧ SS u.2.2.1 r.2.1 r.2.2.1 r.2.2.2.1 := by
  obtain ⟨⟨rfl, rfl, rfl, rfl, rfl, rfl⟩, T, L, S, D⟩ := W
  obtain ⟨r, e, g1, g2⟩ := x7_isAsked (fu := fu) (l0 := q_asked_length) (b0 := q_asked_bits) (le := q_asked_letters) hf I.2.2.2.1 v1 v2
  rw [f_X7_bought, f_X8_bought, e, pz_bind, x8_isWord hf I R, pz_bind, g1]
  cases hok : okB s (vN v1)
  · rw [Bool.and_false, if_pos b_f, if_pos b_f, X7_bought_J18, c_bad, pz_bind, X8_bought_J24, t_bad, pz_bind]
    exact ⟨_, _, rfl, rfl, rfl, SS_bad hS⟩
  · rw [if_neg b_t, x8_isHour, pz_bind]
    by_cases hh : vN v2 < 4
    · obtain ⟨hw, ev⟩ := okB_v hok
      have ev2 := vN_e (v := v2) (by omega)
      rw [hok, decide_eq_true hh] at g2
      obtain ⟨g3, bits, g4, g5⟩ := g2 rfl
      rw [decide_eq_true hh, Bool.and_true, if_neg b_t, if_neg b_t, g3, g4]
      generalize vN v1 = w at *
      generalize vN v2 = h at *
      subst ev
      subst ev2
      have hi := in01 (v := v3)
      rw [show f_X8_in fu v3 0 1 = _ from x8_in (lo := 0) (hi := 1) (by decide) (by decide) v3, pz_bind]
      by_cases h4 : vN v3 ≤ 1
      · obtain ⟨n4, l4⟩ := hi.1 h4
        rw [if_neg n4, if_pos l4, decide_eq_true (show 0 ≤ vN v3 ∧ vN v3 ≤ 1 from ⟨Nat.zero_le _, h4⟩), if_neg b_t, x8_findReads hf I R hO, pz_bind]
        obtain ⟨b, hE, e1⟩ := bo_boxes (fu := fu) (st := u_st) (rf := u_refused) (ones := u_ones) (rt := filF (fun k => eI (rd s k)) u_readTable 4096) (en := u_enough) (iw := u_isWanted) (co := u_column) (line := u_line) (v3 := v3) hf I R (fun k hk => filF_in hk) hh hw
        obtain ⟨u, e2, a1, a2⟩ := bo_sets (fu := fu) (st := u_st) (rf := u_refused) (ones := u_ones) (rt := filF (fun k => eI (rd s k)) u_readTable 4096) (iw := b.2) (co := u_column) (line := u_line) (v3 := v3) hf I R hw hE
        obtain ⟨r7, e3, c1, c2, c3, c4⟩ := x7_sets (fu := fu) (wb := q_wereBad) (wn := q_wereNo) (wf := q_wereFull) (v3 := v3) (al0 := v3) hf I T L S hh hw g5
        refine ⟨r7, u, e3, e1.trans e2, by rw [c1, a1], ?_⟩
        rw [a2, c2, c3, c4]
        exact hS
      · rw [decide_eq_false (show ¬ (0 ≤ vN v3 ∧ vN v3 ≤ 1) from fun q => h4 q.2), if_pos b_f, X8_bought_J24, t_bad, pz_bind]
        rcases hi.2 h4 with n4 | ⟨n4, l4⟩
        · rw [if_pos n4, X7_bought_J18, c_bad, pz_bind]
          exact ⟨_, _, rfl, rfl, rfl, SS_bad hS⟩
        · rw [if_neg n4, if_neg l4, X7_bought_J18, c_bad, pz_bind]
          exact ⟨_, _, rfl, rfl, rfl, SS_bad hS⟩
    · rw [decide_eq_false hh, Bool.false_and, if_pos b_f, if_pos b_f, X7_bought_J18, c_bad, pz_bind, X8_bought_J24, t_bad, pz_bind]
      exact ⟨_, _, rfl, rfl, rfl, SS_bad hS⟩
end
