/-! CALLS THAT ADD: letter, tenant, reading; a wall anew -/
theorem rngI (v : Int32) {lo hi : Nat} (hl : lo < 2 ^ 31) (hh : hi < 2 ^ 31) : ((lo ≤ vN v ∧ vN v ≤ hi) ∧ ¬ v < nI lo ∧ v ≤ nI hi ∧ ¬ nI hi < v) ∨ (¬ (lo ≤ vN v ∧ vN v ≤ hi) ∧ (v < nI lo ∨ (¬ v < nI lo ∧ ¬ v ≤ nI hi ∧ nI hi < v))) := by
  rcases pz_cases v with ⟨a, ha, rfl⟩ | ⟨b, h0, hb, rfl⟩
  · rw [vN_n ha, pz_lt ha hl, pz_le ha hh, pz_lt hh ha]
    omega
  · right
    rw [vN_m hb h0]
    refine ⟨by omega, Or.inl ?_⟩
    rw [pz_mlt hl hb h0]
    trivial
section
variable {fu : Nat} {s : Nat → Nat} {st ones rf : Nat → Int32}
def dupB (s : Nat → Nat) (x : Nat) : Nat → Bool
  | 0 => false
  | k + 1 => dupB s x k || decide (s (30 + k) = x)
theorem dup_on {x k : Nat} : ∀ {n : Nat}, k ≤ n → dupB s x k = true → dupB s x n = true
  | 0, h, e => by rw [show k = 0 by omega] at e; exact e
  | n + 1, h, e => by
    rcases Nat.lt_or_ge k (n + 1) with q | q
    · rw [dupB, dup_on (show k ≤ n by omega) e]; rfl
    · rw [show k = n + 1 by omega] at e; exact e
theorem Iv_let (I : Iv s) {x : Nat} (h6' : s 3 < 6) (hx : x < 4096) : Iv (un (un s (30 + s 3) x) 3 (s 3 + 1)) := by
  obtain ⟨h0, h1, h2, h3, h4, h5, h6, h7, h8, h9, h10⟩ := I
  have e : ∀ j, (j < 3 ∨ 3 < j) → (j < 30 + s 3 ∨ 30 + s 3 < j) → un (un s (30 + s 3) x) 3 (s 3 + 1) j = s j := fun j hj hj2 => by rw [un_ne (by omega), un_ne (by omega)]
  have e3 : un (un s (30 + s 3) x) 3 (s 3 + 1) 3 = s 3 + 1 := un_eq rfl
  have ex : un (un s (30 + s 3) x) 3 (s 3 + 1) (30 + s 3) = x := by rw [un_ne (by omega), un_eq rfl]
  generalize un (un s (30 + s 3) x) 3 (s 3 + 1) = z at *
  have eb : ∀ d, boxB z d = boxB s d := fun d => by unfold boxB; rw [e 0 (by omega) (by omega), e 1 (by omega) (by omega)]
  unfold Iv
  rw [e 0 (by omega) (by omega), e 1 (by omega) (by omega), e 2 (by omega) (by omega), e3, e 4 (by omega) (by omega), e 5 (by omega) (by omega)]
  refine ⟨h0, h1, h2, by omega, h4, h5, fun t ht => ?_, fun d hd => ?_, fun k hk => ?_, fun k hk => ?_, fun r hr => ?_⟩
  · have := h6 t ht
    rw [e _ (by omega) (by omega), e _ (by omega) (by omega), e _ (by omega) (by omega), e _ (by omega) (by omega)]
    exact ⟨this.1, this.2.1, this.2.2.1, by omega⟩
  · rw [e _ (by omega) (by omega)]; exact h7 d hd
  · rw [e _ (by omega) (by omega)]; exact h8 k hk
  · rcases Nat.lt_or_ge k (s 3) with g | g
    · rw [e _ (by omega) (by omega)]; exact h9 k g
    · rw [show k = s 3 by omega, ex]; exact hx
  · have := h10 r hr
    rw [e _ (by omega) (by omega), e _ (by omega) (by omega), e _ (by omega) (by omega), eb]
    exact ⟨this.1, by omega, by omega⟩
theorem q_letter {q_wall_wide : Int32} {q_wall_high : Int32} {q_wall_slackNow : Int32} {q_wall_tenants : Int32} {q_wall_letters : Int32} {q_wall_readings : Int32} {q_wall_kinds : Nat → Int32} {q_wall_painOf : Nat → Int32} {q_wall_payFor : Nat → Int32} {q_wall_refused : Nat → Int32} {q_wall_owned : Nat → Int64} {q_wall_litIn : Nat → Int64} {q_wall_shapes : Nat → Int32} {q_wall_readAt : Nat → Int32} {q_wall_meant : Nat → Int32} {q_wall_readSo : Nat → Int32} {u_st u_refused u_ones : Nat → Int32} {q_wereBad q_wereNo q_wereFull : Int32} (v1 : Int32) (hf : 5000 ≤ fu) (I : Iv s) (W : WR q_wall_wide q_wall_high q_wall_slackNow q_wall_tenants q_wall_letters q_wall_readings q_wall_kinds q_wall_painOf q_wall_payFor q_wall_refused q_wall_owned q_wall_litIn q_wall_shapes q_wall_readAt q_wall_meant q_wall_readSo s) (R : SR u_st s) (hS : SS u_refused q_wereBad q_wereNo q_wereFull) : ∃ r u s2, f_X7_letter fu q_wereBad q_wereNo q_wereFull q_wall_letters q_wall_shapes v1 = some r ∧ f_X8_letter fu u_st u_refused v1 = some u ∧ r.1 = u.1 ∧ SS u.2.2 r.2.1 r.2.2.1 r.2.2.2.1 ∧ Iv s2 ∧ SR u.2.1 s2 ∧ WR q_wall_wide q_wall_high q_wall_slackNow q_wall_tenants r.2.2.2.2.1 q_wall_readings q_wall_kinds q_wall_painOf q_wall_payFor q_wall_refused q_wall_owned q_wall_litIn r.2.2.2.2.2 q_wall_readAt q_wall_meant q_wall_readSo s2 := by
  have W0 := W
  obtain ⟨⟨rfl, rfl, rfl, rfl, rfl, rfl⟩, T, L, S, D⟩ := W
  have hd := SR_hd I R
  have i3 := I.2.2.2.1
  rw [f_X7_letter, f_X8_letter, f_X5_addLetter, f_X8_putLetter, x7_isShape, pz_bind, show f_X8_in fu v1 0 4095 = _ from x8_in (lo := 0) (hi := 4095) (by decide) (by decide) v1, pz_bind]
  -- the end of the reference's row
  have endr : ∀ b, (∀ n, X8_putLetter_L11 fu u_st v1 (n + 1) (bI b) (nI (s 3)) = if b = true then (if s 3 = 6 then some (-4, u_st) else some (nI (s 3), upd (upd u_st (30 + s 3) v1) 3 (nI (s 3 + 1)))) else some (-2, u_st)) := by
    intro b n
    rw [X8_putLetter_L11, hd.2.2.2.1, if_pos (by rw [pz_le (by omega) (by omega)]; omega)]
    cases b
    · rw [if_pos b_f, if_neg (by decide)]
    · rw [if_neg b_t, if_pos rfl]
      by_cases g : s 3 = 6
      · rw [if_pos (by rw [g]; rfl), if_pos g]
      · have e3 : upd u_st (30 + s 3) v1 3 = nI (s 3) := by rw [pk_un (by omega), hd.2.2.2.1]
        rw [if_neg (by rw [pz_c6, pz_eq (by omega) (by omega)]; exact g), if_neg g, pz_c30, nI_add, pz_ck _ (by omega) (by omega), pz_cl (by omega), e3, nI_1, pk_us, pz_c1, pk_sub (by omega), Nat.add_sub_cancel]
  by_cases hx : vN v1 < 4096
  · have ev := vN_e (v := v1) (by omega)
    rw [decide_eq_true hx, decide_eq_true (show 0 ≤ vN v1 ∧ vN v1 ≤ 4095 by omega), if_neg b_t]
    generalize vN v1 = x at *
    subst ev
    have eu : X8_putLetter_L11 fu u_st (nI x) fu (bI true) 0 = if (!dupB s x (s 3)) = true then (if s 3 = 6 then some (-4, u_st) else some (nI (s 3), upd (upd u_st (30 + s 3) (nI x)) 3 (nI (s 3 + 1)))) else some (-2, u_st) := by
      refine pz_up (fun n k => X8_putLetter_L11 fu u_st (nI x) n (bI (!dupB s x k)) (nI k)) (s 3) _ (fun n k hk => ?_) (fun n => endr _ n) fu 0 (by omega) (by omega)
      have e := R (30 + k) (by omega)
      have h9 := I.2.2.2.2.2.2.2.2.2.1 k hk
      rw [X8_putLetter_L11]
      generalize X8_putLetter_L11 fu u_st (nI x) n = rec
      rw [hd.2.2.2.1, if_neg (by rw [pz_le (by omega) (by omega)]; omega), dupB]
      cases hdq : dupB s x k
      · rw [Bool.not_false, if_neg b_t, pz_c30, nI_add, pz_rd _ _ (by omega) (by omega), e, eI_of (by omega), Bool.false_or]
        by_cases g : s (30 + k) = x
        · rw [if_pos (by rw [g]), X8_putLetter_J42, X8_putLetter_J43, nI_1, decide_eq_true g]; rfl
        · rw [if_neg (by rw [pz_eq (by omega) (by omega)]; exact g), X8_putLetter_J43, nI_1, decide_eq_false g]; rfl
      · rw [Bool.not_true, if_pos b_f, X8_putLetter_J42, X8_putLetter_J43, nI_1]; rfl
    have ex : X5_addLetter_L12 fu (nI (s 3)) q_wall_shapes (nI x) fu 0 = if (!dupB s x (s 3)) = true then (if s 3 = 6 then some (-4, nI (s 3), q_wall_shapes) else some (nI (s 3), nI (s 3 + 1), upd q_wall_shapes (s 3) (nI x))) else some (-2, nI (s 3), q_wall_shapes) := by
      refine pz_upE (fun n k => X5_addLetter_L12 fu (nI (s 3)) q_wall_shapes (nI x) n (nI k)) (s 3) _ (fun k => dupB s x k = false) (fun n k hk hP => ?_) (fun n hP => ?_) fu 0 (by omega) (by omega) rfl
      · have h9 := I.2.2.2.2.2.2.2.2.2.1 k hk
        try simp only
        rw [X5_addLetter_L12]
        generalize X5_addLetter_L12 fu (nI (s 3)) q_wall_shapes (nI x) n = rec
        rw [if_neg (by rw [pz_le (by omega) (by omega)]; omega), pz_rd _ _ (by omega) (by omega), S k hk]
        by_cases g : s (30 + k) = x
        · left
          have hon : dupB s x (s 3) = true := dup_on (show k + 1 ≤ s 3 from hk) (by rw [dupB, decide_eq_true g, Bool.or_true])
          rw [if_pos (by rw [g]), hon, if_neg (by decide)]
        · right
          rw [if_neg (by rw [pz_eq (by omega) (by omega)]; exact g), nI_1]
          exact ⟨by rw [dupB, hP, decide_eq_false g]; rfl, rfl⟩
      · try simp only
        rw [X5_addLetter_L12, if_pos (by rw [pz_le (by omega) (by omega)]; omega), hP, if_pos (show (!false) = true from rfl)]
        by_cases g : s 3 = 6
        · rw [if_neg (by rw [pz_c6, pz_lt (by omega) (by omega)]; omega), if_pos g]
        · rw [if_pos (by rw [pz_c6, pz_lt (by omega) (by omega)]; omega), if_neg g, pz_ck _ (by omega) (by omega), pz_cl (by omega), nI_1, pz_c1, pk_sub (by omega), Nat.add_sub_cancel]
    rw [ex, eu]
    cases hdq : dupB s x (s 3)
    · rw [Bool.not_false, if_pos rfl, if_pos rfl]
      by_cases g : s 3 = 6
      · rw [if_pos g, if_pos g, pz_bind, pz_bind]
        dsimp only
        rw [c_full, pz_bind, t_full, pz_bind]
        exact ⟨_, _, s, rfl, rfl, rfl, SS_full hS, I, R, W0⟩
      · have ok : (∃ k, k < 2 ^ 31 ∧ nI (s 3) = nI k) ∨ nI (s 3) = -nI 1 := Or.inl ⟨s 3, by omega, rfl⟩
        rw [if_neg g, if_neg g, pz_bind, pz_bind]
        dsimp only
        rw [c_ok ok, pz_bind, t_ok ok, pz_bind]
        have e : ∀ j, (j < 3 ∨ 3 < j) → (j < 30 + s 3 ∨ 30 + s 3 < j) → un (un s (30 + s 3) x) 3 (s 3 + 1) j = s j := fun j hj hj2 => by rw [un_ne (by omega), un_ne (by omega)]
        have e3 : un (un s (30 + s 3) x) 3 (s 3 + 1) 3 = s 3 + 1 := un_eq rfl
        have ex2 : un (un s (30 + s 3) x) 3 (s 3 + 1) (30 + s 3) = x := by rw [un_ne (by omega), un_eq rfl]
        refine ⟨_, _, un (un s (30 + s 3) x) 3 (s 3 + 1), rfl, rfl, rfl, hS, Iv_let I (by omega) hx, SR_un (SR_un R (by rw [eI_of (by omega)])) (by rw [eI_of (by omega)]), ⟨⟨?_, ?_, ?_, ?_, ?_, ?_⟩, TR_of I T (e 2 (by omega) (by omega)) (fun j _ _ => e j (by omega) (by omega)) (fun j _ _ => e j (by omega) (by omega)), LR_of L (fun j _ _ => e j (by omega) (by omega)), fun k hk => ?_, DR_of I D (e 4 (by omega) (by omega)) (fun j _ _ => e j (by omega) (by omega))⟩⟩
        · rw [e _ (by omega) (by omega)]
        · rw [e _ (by omega) (by omega)]
        · rw [e _ (by omega) (by omega)]
        · rw [e _ (by omega) (by omega)]
        · rw [e3]
        · rw [e _ (by omega) (by omega)]
        · rw [e3] at hk
          show upd q_wall_shapes (s 3) (nI x) k = _
          rcases Nat.lt_or_ge k (s 3) with q | q
          · rw [pk_un (by omega), e _ (by omega) (by omega), S k q]
          · rw [show k = s 3 by omega, pk_us, ex2]
    · rw [Bool.not_true, if_neg (by decide), if_neg (by decide), pz_bind, pz_bind]
      dsimp only
      rw [c_bad, pz_bind, t_bad, pz_bind]
      exact ⟨_, _, s, rfl, rfl, rfl, SS_bad hS, I, R, W0⟩
  · rw [decide_eq_false hx, decide_eq_false (show ¬ (0 ≤ vN v1 ∧ vN v1 ≤ 4095) by omega), if_pos b_f, pz_bind]
    have eu : X8_putLetter_L11 fu u_st v1 fu (bI false) 0 = some (-2, u_st) := by
      refine pz_up (fun n k => X8_putLetter_L11 fu u_st v1 n (bI false) (nI k)) (s 3) _ (fun n k hk => ?_) (fun n => (endr false n).trans (if_neg (by decide))) fu 0 (by omega) (by omega)
      rw [X8_putLetter_L11]
      generalize X8_putLetter_L11 fu u_st v1 n = rec
      rw [hd.2.2.2.1, if_neg (by rw [pz_le (by omega) (by omega)]; omega), if_pos b_f, X8_putLetter_J42, X8_putLetter_J43, nI_1]; rfl
    rw [eu, pz_bind]
    dsimp only
    rw [c_bad, pz_bind, t_bad, pz_bind]
    exact ⟨_, _, s, rfl, rfl, rfl, SS_bad hS, I, R, W0⟩
def AN (w h : Nat) (j : Nat) : Nat := if j = 0 then w else if j = 1 then h else if 36 ≤ j ∧ j < 96 then 65535 else 0
theorem Iv_AN {w h : Nat} (hw : 3 ≤ w ∧ w ≤ 12) (hh : 4 ≤ h ∧ h ≤ 5) : Iv (AN w h) := by
  refine ⟨hw, hh, Nat.zero_le _, Nat.zero_le _, Nat.zero_le _, Nat.zero_le _, fun t ht => absurd ht (Nat.not_lt_zero t), fun c hc => Or.inl ?_, fun k hk => ?_, fun k hk => absurd hk (Nat.not_lt_zero k), fun r hr => absurd hr (Nat.not_lt_zero r)⟩
  · rw [AN, if_neg (by omega), if_neg (by omega), if_pos (by omega)]
  · rw [AN, if_neg (by omega), if_neg (by omega), if_neg (by omega)]; omega
theorem x8_anew {w h : Nat} (hf : 5000 ≤ fu) (hw : w < 65535) (hh : h < 65535) : ∃ r, f_X8_anew fu st (nI w) (nI h) = some r ∧ SR r (AN w h) := by
  rw [f_X8_anew]
  have two : ∀ a : Nat → Int32, (∀ j, j < 354 → a j = nI 0) → ∃ r, X8_anew_L24 fu (nI w) (nI h) fu a (nI 0) = some r ∧ SR r (AN w h) := by
    intro a ha
    refine pz_rel (fun n k (a : Nat → Int32) => X8_anew_L24 fu (nI w) (nI h) n a (nI k)) (fun k a => ∀ j, j < 354 → a j = if 36 ≤ j ∧ j < 36 + k then -nI 1 else nI 0) 60 _ (fun n k a hk ha => ?_) (fun n a ha => ?_) fu 0 a (by omega) (by omega) (fun j hj => by rw [if_neg (by omega), ha j hj])
    · right
      refine ⟨upd a (36 + k) (-nI 1), fun j hj => ?_, ?_⟩
      · by_cases g : j = 36 + k
        · rw [g, pk_us, if_pos (by omega)]
        · rw [pk_un g, ha j hj]
          by_cases q : 36 ≤ j ∧ j < 36 + k
          · rw [if_pos q, if_pos (by omega)]
          · rw [if_neg q, if_neg (by omega)]
      · try simp only
        rw [X8_anew_L24]
        generalize X8_anew_L24 fu (nI w) (nI h) n = rec
        rw [if_neg (by rw [pz_c60, pz_le (by decide) (by omega)]; omega), pz_c36, nI_add, pz_ck _ (by omega) (by omega), pz_cl (by omega), nI_1]; rfl
    · try simp only
      rw [X8_anew_L24, if_pos (by decide +kernel)]
      refine ⟨_, rfl, fun j hj => ?_⟩
      rw [AN]
      by_cases g1 : j = 1
      · rw [g1, pk_us, if_neg (by decide), if_pos rfl, eI_of hh]
      · rw [pk_un g1]
        by_cases g0 : j = 0
        · rw [g0, pk_us, if_pos rfl, eI_of hw]
        · rw [pk_un g0, ha j hj, if_neg g0, if_neg g1]
          by_cases q : 36 ≤ j ∧ j < 96
          · rw [if_pos (by omega), if_pos q]; rfl
          · rw [if_neg (by omega), if_neg q]; rfl
  refine pz_rel (fun n k (a : Nat → Int32) => X8_anew_L2 fu (nI w) (nI h) n a (nI k)) (fun k a => ∀ j, j < k → a j = nI 0) 354 _ (fun n k a hk ha => ?_) (fun n a ha => ?_) fu 0 st (by omega) (by omega) (fun j hj => absurd hj (Nat.not_lt_zero j))
  · right
    refine ⟨upd a k (nI 0), fun j hj => ?_, ?_⟩
    · by_cases g : j = k
      · rw [g, pk_us]
      · rw [pk_un g, ha j (by omega)]
    · try simp only
      rw [X8_anew_L2]
      generalize X8_anew_L2 fu (nI w) (nI h) n = rec
      rw [if_neg (by rw [pz_c354, pz_le (by decide) (by omega)]; omega), pz_ck _ (by omega) (by omega), pz_cl (by omega), nI_1]; rfl
  · try simp only
    rw [X8_anew_L2, if_pos (by decide +kernel)]
    exact two a ha
theorem LI_AN {w h k : Nat} (hk : k < 4) : LI (AN w h) k = 0 := by
  symm
  apply mkN_eq (by decide)
  intro i hi
  rw [Nat.zero_testBit, AN, if_neg (by omega), if_neg (by omega), if_neg (by omega)]
  rfl
theorem x5_beAnew {a b c d e f : Int32} {li : Nat → Int64} {w h : Nat} (hf : 5000 ≤ fu) : ∃ r, f_X5_beAnew fu a b c d e f li (nI w) (nI h) = some (nI w, nI h, nI 0, nI 0, nI 0, nI 0, r) ∧ LR (AN w h) r := by
  rw [f_X5_beAnew]
  have main := pz_rel (fun n k (a : Nat → Int64) => X5_beAnew_L32 fu (nI w) (nI h) (nI 0) (nI 0) (nI 0) (nI 0) n a (nI k)) (fun k a => ∀ j, j < k → a j = lN 0) 4 (fun r => ∃ a, r = (nI w, nI h, nI 0, nI 0, nI 0, nI 0, a) ∧ LR (AN w h) a) (fun n k a hk ha => ?_) (fun n a ha => ?_) fu 0 li (by omega) (by omega) (fun j hj => absurd hj (Nat.not_lt_zero j))
  · obtain ⟨r, e1, a, e2, e3⟩ := main
    exact ⟨a, by rw [← e2]; exact e1, e3⟩
  · right
    refine ⟨vp_updL a k (lN 0), fun j hj => ?_, ?_⟩
    · by_cases g : j = k
      · rw [g, pk_uLs]
      · rw [pk_uLn g, ha j (by omega)]
    · try simp only
      rw [X5_beAnew_L32]
      generalize X5_beAnew_L32 fu (nI w) (nI h) (nI 0) (nI 0) (nI 0) (nI 0) n = rec
      rw [if_neg (by rw [pz_c4, pz_le (by decide) (by omega)]; omega), pz_ck _ (by omega) (by omega), pz_cl (by omega), nI_1]; rfl
  · try simp only
    rw [X5_beAnew_L32, if_pos (by decide +kernel)]
    exact ⟨_, rfl, a, rfl, fun k hk => by rw [ha k hk, LI_AN hk]⟩
theorem WR_AN {li ow : Nat → Int64} {k p q r sh ra me so : Nat → Int32} {w h : Nat} (hL : LR (AN w h) li) : WR (nI w) (nI h) (nI 0) (nI 0) (nI 0) (nI 0) k p q r ow li sh ra me so (AN w h) :=
  ⟨⟨rfl, rfl, rfl, rfl, rfl, rfl⟩, fun t ht => absurd ht (Nat.not_lt_zero t), hL, fun t ht => absurd ht (Nat.not_lt_zero t), fun t ht => absurd ht (Nat.not_lt_zero t)⟩
theorem q_wall {q_wall_wide : Int32} {q_wall_high : Int32} {q_wall_slackNow : Int32} {q_wall_tenants : Int32} {q_wall_letters : Int32} {q_wall_readings : Int32} {q_wall_kinds : Nat → Int32} {q_wall_painOf : Nat → Int32} {q_wall_payFor : Nat → Int32} {q_wall_refused : Nat → Int32} {q_wall_owned : Nat → Int64} {q_wall_litIn : Nat → Int64} {q_wall_shapes : Nat → Int32} {q_wall_readAt : Nat → Int32} {q_wall_meant : Nat → Int32} {q_wall_readSo : Nat → Int32} {u_st u_refused u_ones : Nat → Int32} {q_wereBad q_wereNo q_wereFull : Int32} (v1 : Int32) (v2 : Int32) (hf : 5000 ≤ fu) (I : Iv s) (W : WR q_wall_wide q_wall_high q_wall_slackNow q_wall_tenants q_wall_letters q_wall_readings q_wall_kinds q_wall_painOf q_wall_payFor q_wall_refused q_wall_owned q_wall_litIn q_wall_shapes q_wall_readAt q_wall_meant q_wall_readSo s) (R : SR u_st s) (hS : SS u_refused q_wereBad q_wereNo q_wereFull) : ∃ r u s2, f_X7_wall fu q_wereBad q_wereNo q_wereFull q_wall_wide q_wall_high q_wall_slackNow q_wall_tenants q_wall_letters q_wall_readings q_wall_litIn v1 v2 = some r ∧ f_X8_wall fu u_st u_refused v1 v2 = some u ∧ r.1 = u.1 ∧ SS u.2.2 r.2.1 r.2.2.1 r.2.2.2.1 ∧ Iv s2 ∧ SR u.2.1 s2 ∧ WR r.2.2.2.2.1 r.2.2.2.2.2.1 r.2.2.2.2.2.2.1 r.2.2.2.2.2.2.2.1 r.2.2.2.2.2.2.2.2.1 r.2.2.2.2.2.2.2.2.2.1 q_wall_kinds q_wall_painOf q_wall_payFor q_wall_refused q_wall_owned r.2.2.2.2.2.2.2.2.2.2 q_wall_shapes q_wall_readAt q_wall_meant q_wall_readSo s2 := by
  rw [f_X7_wall, f_X8_wall, f_X5_setSize, f_X8_putWall, show f_X8_in fu v1 3 12 = _ from x8_in (lo := 3) (hi := 12) (by decide) (by decide) v1, pz_bind]
  have bad : ∀ r1, r1 = (-2, q_wall_wide, q_wall_high, q_wall_slackNow, q_wall_tenants, q_wall_letters, q_wall_readings, q_wall_litIn) → ∃ r u s2, ((some r1).bind fun t7 => (f_X7_counted fu q_wereBad q_wereNo q_wereFull t7.1).bind fun t10 => some (t10.1, t10.2.1, t10.2.2.1, t10.2.2.2, t7.2.1, t7.2.2.1, t7.2.2.2.1, t7.2.2.2.2.1, t7.2.2.2.2.2.1, t7.2.2.2.2.2.2.1, t7.2.2.2.2.2.2.2)) = some r ∧ ((X8_putWall_J19 fu u_st).bind fun t4 => (f_X8_told fu u_refused t4.1).bind fun t7 => some (t7.1, t4.2, t7.2)) = some u ∧ r.1 = u.1 ∧ SS u.2.2 r.2.1 r.2.2.1 r.2.2.2.1 ∧ Iv s2 ∧ SR u.2.1 s2 ∧ WR r.2.2.2.2.1 r.2.2.2.2.2.1 r.2.2.2.2.2.2.1 r.2.2.2.2.2.2.2.1 r.2.2.2.2.2.2.2.2.1 r.2.2.2.2.2.2.2.2.2.1 q_wall_kinds q_wall_painOf q_wall_payFor q_wall_refused q_wall_owned r.2.2.2.2.2.2.2.2.2.2 q_wall_shapes q_wall_readAt q_wall_meant q_wall_readSo s2 := by
    intro r1 e
    rw [e, pz_bind, X8_putWall_J19, pz_bind]
    dsimp only
    rw [c_bad, pz_bind, t_bad, pz_bind]
    exact ⟨_, _, s, rfl, rfl, rfl, SS_bad hS, I, R, W⟩
  rcases rngI v1 (lo := 3) (hi := 12) (by decide) (by decide) with ⟨a1, a2, a3, -⟩ | ⟨a1, a2⟩
  · rw [decide_eq_true a1, if_neg b_t, if_neg (show ¬ v1 < 3 from a2), if_pos (show v1 ≤ 12 from a3), show f_X8_in fu v2 4 5 = _ from x8_in (lo := 4) (hi := 5) (by decide) (by decide) v2, pz_bind]
    rcases rngI v2 (lo := 4) (hi := 5) (by decide) (by decide) with ⟨b1, b2, b3, -⟩ | ⟨b1, b2⟩
    · rw [decide_eq_true b1, if_neg b_t, if_neg (show ¬ v2 < 4 from b2), if_pos (show v2 ≤ 5 from b3)]
      have ev := vN_e (v := v1) (by omega)
      have ev2 := vN_e (v := v2) (by omega)
      generalize vN v1 = w at *
      generalize vN v2 = h at *
      subst ev
      subst ev2
      obtain ⟨ra, ea, la⟩ := x5_beAnew (fu := fu) (a := q_wall_wide) (b := q_wall_high) (c := q_wall_slackNow) (d := q_wall_tenants) (e := q_wall_letters) (f := q_wall_readings) (li := q_wall_litIn) (w := w) (h := h) hf
      obtain ⟨rb, eb, lb⟩ := x8_anew (fu := fu) (st := u_st) (w := w) (h := h) hf (by omega) (by omega)
      have ok : (∃ k, k < 2 ^ 31 ∧ nI 1 = nI k) ∨ nI 1 = -nI 1 := Or.inl ⟨1, by omega, rfl⟩
      rw [ea, pz_bind, eb, pz_bind, pz_bind, pz_bind]
      dsimp only
      rw [show f_X7_counted fu q_wereBad q_wereNo q_wereFull 1 = _ from c_ok ok, pz_bind, show f_X8_told fu u_refused 1 = _ from t_ok ok, pz_bind]
      exact ⟨_, _, AN w h, rfl, rfl, rfl, hS, Iv_AN a1 b1, lb, WR_AN la⟩
    · rw [decide_eq_false b1, if_pos b_f]
      rcases b2 with g | ⟨g1, g2, -⟩
      · rw [if_pos (show v2 < 4 from g)]
        exact bad _ rfl
      · rw [if_neg (show ¬ v2 < 4 from g1), if_neg (show ¬ v2 ≤ 5 from g2)]
        exact bad _ rfl
  · rw [decide_eq_false a1, if_pos b_f]
    rcases a2 with g | ⟨g1, g2, -⟩
    · rw [if_pos (show v1 < 3 from g)]
      exact bad _ rfl
    · rw [if_neg (show ¬ v1 < 3 from g1), if_neg (show ¬ v1 ≤ 12 from g2)]
      exact bad _ rfl
end
