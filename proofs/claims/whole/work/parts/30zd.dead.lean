/-! DEAD: the sets in their order, and the call -/
section
variable {fu : Nat} {s : Nat → Nat} {st ones rf : Nat → Int32}
abbrev S4 : Type := Int32 × Int32 × Int32 × Int32
def gA (s : Nat → Nat) (c : Nat) (a : S4) : S4 := tk s (d2P c c) 1 (nI c) (nI c) a
def gB (s : Nat → Nat) (c j : Nat) (a : S4) : S4 := tk s (d2P c j) 2 (nI c) (nI j) a
def gC (s : Nat → Nat) (c : Nat) (a : S4) : S4 := fo (winB s) (gB s c) (60 - (c + 1)) (c + 1) a
def dAll (s : Nat → Nat) (a : S4) : S4 := fo (winB s) (gC s) 60 0 (fo (winB s) (gA s) 60 0 (tk s (d2P 65535 65535) 0 (-1) (-1) a))
def sm (a b : S4) : Prop := a = b ∨ (a.1 = 0 ∧ b.1 = 0)
theorem sm_tk {p : Nat → Bool} {v1 v2 v3 : Int32} {a b : S4} (h : sm a b) : sm (tk s p v1 v2 v3 a) (tk s p v1 v2 v3 b) := by
  rcases h with h | ⟨h1, h2⟩
  · rw [h]; exact Or.inl rfl
  · unfold tk
    by_cases g : soAll s p (s 4) = true
    · rw [if_pos g, if_pos g, if_pos h1, if_pos h2, h1, h2]; exact Or.inl rfl
    · rw [if_neg g, if_neg g]; exact Or.inr ⟨h1, h2⟩
theorem sm_fo {p : Nat → Bool} {g : Nat → S4 → S4} (hg : ∀ c a b, sm a b → sm (g c a) (g c b)) : ∀ m c a b, sm a b → sm (fo p g m c a) (fo p g m c b)
  | 0, _, _, _, h => h
  | m + 1, c, a, b, h => by
    rw [fo, fo]
    apply sm_fo hg m (c + 1)
    by_cases q : p c = true
    · rw [if_pos q, if_pos q]; exact hg c a b h
    · rw [if_neg q, if_neg q]; exact h
theorem sm_all {a b : S4} (h : sm a b) : sm (dAll s a) (dAll s b) := by
  have hA : ∀ c a b, sm a b → sm (gA s c a) (gA s c b) := fun c a b h => sm_tk h
  have hC : ∀ c a b, sm a b → sm (gC s c a) (gC s c b) := fun c a b h => sm_fo (g := gB s c) (fun j a b h => sm_tk h) _ _ _ _ h
  exact sm_fo hC _ _ _ _ (sm_fo hA _ _ _ _ (sm_tk h))
theorem x0_find {m z l g : Int32} {wn shapes soW readAt meant readSo : Nat → Int32} {shown : Nat → Int64} (hf : 5000 ≤ fu) (I : Iv s) (S : HR s shapes) (D : DR s readAt meant readSo) : ∃ r, f_X0_find fu m z l g wn shown soW (nI (s 0)) (nI (s 1)) (nI (s 5)) (nI (s 3)) (nI (s 4)) shapes readAt meant readSo = some r ∧ (r.1, r.2.1, r.2.2.1, r.2.2.2.1) = dAll s (0, z, l, g) := by
  obtain ⟨w, ew, w1, w2⟩ := x0_tellWindows (fu := fu) (wn := wn) hf I
  obtain ⟨t, et, t1⟩ := x0_tellReadings (fu := fu) (shown := shown) (soW := soW) hf I S D
  have e0 := x0_look (fu := fu) (d1 := 65535) (d2 := 65535) (v1 := 0) (m := 0) (z := z) (l := l) (g := g) hf I S D t1 (Or.inl rfl) (Or.inl rfl)
  rw [f_X0_find, ew, pz_bind, et, pz_bind, show f_X0_look fu 0 z l g t.1 t.2 (nI (s 5)) (nI (s 3)) (nI (s 4)) shapes readAt readSo 0 (-1) (-1) = _ from e0, pz_bind, w1]
  have hle : ∀ c, ctN (winB s) c ≤ c := ctN_le _
  have hl60 := hle 60
  have inner : ∀ (rec57 : Int32 → Int32 → Int32 → Int32 → Int32 → Option (Int32 × Int32 × Int32 × Int32 × (Nat → Int32) × (Nat → Int64) × (Nat → Int32))) (c : Nat) (a : S4), c < 60 → winB s c = true → X0_find_L67 fu rec57 w.2 t.1 t.2 (nI (s 0)) (nI (s 1)) (nI (s 5)) (nI (s 3)) (nI (s 4)) shapes readAt meant readSo (nI (ctN (winB s) 60)) (nI (ctN (winB s) c)) fu a.1 a.2.1 a.2.2.1 a.2.2.2 (nI (ctN (winB s) (c + 1))) = rec57 (gC s c a).1 (gC s c a).2.1 (gC s c a).2.2.1 (gC s c a).2.2.2 (nI (ctN (winB s) c + 1)) := by
    intro rec57 c a hc hp
    have hcc := hle c
    have e57 := w2 c hc hp
    refine pz_fil (fun n k (a : S4) => X0_find_L67 fu rec57 w.2 t.1 t.2 (nI (s 0)) (nI (s 1)) (nI (s 5)) (nI (s 3)) (nI (s 4)) shapes readAt meant readSo (nI (ctN (winB s) 60)) (nI (ctN (winB s) c)) n a.1 a.2.1 a.2.2.1 a.2.2.2 (nI k)) (winB s) 60 (gB s c) (fun b => rec57 b.1 b.2.1 b.2.2.1 b.2.2.2 (nI (ctN (winB s) c + 1))) (fun n j b hj hq => ?_) (fun n b => ?_) (60 - (c + 1)) (c + 1) fu a (by omega) (by omega)
    · have hjj := hle j
      have hin := ctN_in hj hq
      have e67 := w2 j hj hq
      have el := x0_look (fu := fu) (d1 := c) (d2 := j) (v1 := 2) (m := b.1) (z := b.2.1) (l := b.2.2.1) (g := b.2.2.2) hf I S D t1 (Or.inr hc) (Or.inr hj)
      rw [eI_of (n := c) (by omega), eI_of (n := j) (by omega)] at el
      try simp only
      rw [X0_find_L67]
      generalize X0_find_L67 fu rec57 w.2 t.1 t.2 (nI (s 0)) (nI (s 1)) (nI (s 5)) (nI (s 3)) (nI (s 4)) shapes readAt meant readSo (nI (ctN (winB s) 60)) (nI (ctN (winB s) c)) n = rec
      rw [if_neg (by rw [pz_le (by omega) (by omega)]; omega), pz_rd _ _ (by omega) (by omega), e57, pz_rd _ _ (by omega) (by omega), e67, el, pz_bind, nI_1]
      rfl
    · try simp only
      rw [X0_find_L67, if_pos (by rw [pz_le (by omega) (by omega)]; omega), nI_1]
  have two : ∀ a : S4, X0_find_L57 fu w.2 t.1 t.2 (nI (s 0)) (nI (s 1)) (nI (s 5)) (nI (s 3)) (nI (s 4)) shapes readAt meant readSo (nI (ctN (winB s) 60)) fu a.1 a.2.1 a.2.2.1 a.2.2.2 (nI 0) = some ((fo (winB s) (gC s) 60 0 a).1, (fo (winB s) (gC s) 60 0 a).2.1, (fo (winB s) (gC s) 60 0 a).2.2.1, (fo (winB s) (gC s) 60 0 a).2.2.2, w.2, t.1, t.2) := by
    intro a
    refine pz_fil (fun n k (a : S4) => X0_find_L57 fu w.2 t.1 t.2 (nI (s 0)) (nI (s 1)) (nI (s 5)) (nI (s 3)) (nI (s 4)) shapes readAt meant readSo (nI (ctN (winB s) 60)) n a.1 a.2.1 a.2.2.1 a.2.2.2 (nI k)) (winB s) 60 (gC s) (fun b => some (b.1, b.2.1, b.2.2.1, b.2.2.2, w.2, t.1, t.2)) (fun n c b hc hp => ?_) (fun n b => ?_) 60 0 fu a (by omega) (by omega)
    · have hcc := hle c
      have hin := ctN_in hc hp
      have ei := inner (X0_find_L57 fu w.2 t.1 t.2 (nI (s 0)) (nI (s 1)) (nI (s 5)) (nI (s 3)) (nI (s 4)) shapes readAt meant readSo (nI (ctN (winB s) 60)) n) c b hc hp
      have ec : ctN (winB s) (c + 1) = ctN (winB s) c + 1 := by rw [ctN, hp]; rfl
      rw [ec] at ei
      try simp only
      rw [X0_find_L57, if_neg (by rw [pz_le (by omega) (by omega)]; omega), nI_1]
      exact ei
    · try simp only
      rw [X0_find_L57, if_pos (by rw [pz_le (by omega) (by omega)]; omega)]
  have one : ∀ a : S4, X0_find_L26 fu w.2 t.1 t.2 (nI (s 0)) (nI (s 1)) (nI (s 5)) (nI (s 3)) (nI (s 4)) shapes readAt meant readSo (nI (ctN (winB s) 60)) fu a.1 a.2.1 a.2.2.1 a.2.2.2 (nI 0) = X0_find_L57 fu w.2 t.1 t.2 (nI (s 0)) (nI (s 1)) (nI (s 5)) (nI (s 3)) (nI (s 4)) shapes readAt meant readSo (nI (ctN (winB s) 60)) fu (fo (winB s) (gA s) 60 0 a).1 (fo (winB s) (gA s) 60 0 a).2.1 (fo (winB s) (gA s) 60 0 a).2.2.1 (fo (winB s) (gA s) 60 0 a).2.2.2 (nI 0) := by
    intro a
    refine pz_fil (fun n k (a : S4) => X0_find_L26 fu w.2 t.1 t.2 (nI (s 0)) (nI (s 1)) (nI (s 5)) (nI (s 3)) (nI (s 4)) shapes readAt meant readSo (nI (ctN (winB s) 60)) n a.1 a.2.1 a.2.2.1 a.2.2.2 (nI k)) (winB s) 60 (gA s) (fun b => X0_find_L57 fu w.2 t.1 t.2 (nI (s 0)) (nI (s 1)) (nI (s 5)) (nI (s 3)) (nI (s 4)) shapes readAt meant readSo (nI (ctN (winB s) 60)) fu b.1 b.2.1 b.2.2.1 b.2.2.2 (nI 0)) (fun n c b hc hp => ?_) (fun n b => ?_) 60 0 fu a (by omega) (by omega)
    · have hcc := hle c
      have hin := ctN_in hc hp
      have e26 := w2 c hc hp
      have el := x0_look (fu := fu) (d1 := c) (d2 := c) (v1 := 1) (m := b.1) (z := b.2.1) (l := b.2.2.1) (g := b.2.2.2) hf I S D t1 (Or.inr hc) (Or.inr hc)
      rw [eI_of (n := c) (by omega)] at el
      try simp only
      rw [X0_find_L26]
      generalize X0_find_L26 fu w.2 t.1 t.2 (nI (s 0)) (nI (s 1)) (nI (s 5)) (nI (s 3)) (nI (s 4)) shapes readAt meant readSo (nI (ctN (winB s) 60)) n = rec
      rw [if_neg (by rw [pz_le (by omega) (by omega)]; omega), pz_rd _ _ (by omega) (by omega), e26, pz_rd _ _ (by omega) (by omega), e26, el, pz_bind, nI_1]
      rfl
    · try simp only
      rw [X0_find_L26, if_pos (by rw [pz_le (by omega) (by omega)]; omega)]
      rfl
  exact ⟨_, (one _).trans (two _), rfl⟩
def dEnd (fu : Nat) (v1 : Int32) (rf : Nat → Int32) (b : S4) : Option (Int32 × Int32 × Int32 × Int32 × Int32 × (Nat → Int32)) := if v1 = 0 then some (b.1, b.1, b.2.1, b.2.2.1, b.2.2.2, rf) else if b.1 = 0 then (f_X8_told fu rf (-3)).bind (fun t129 => some (t129.1, b.1, b.2.1, b.2.2.1, b.2.2.2, t129.2)) else if v1 = 1 then some (b.2.1, b.1, b.2.1, b.2.2.1, b.2.2.2, rf) else if v1 = 2 then some (b.2.2.1, b.1, b.2.1, b.2.2.1, b.2.2.2, rf) else some (b.2.2.2, b.1, b.2.1, b.2.2.1, b.2.2.2, rf)
theorem x8_deadAll {v1 z l g : Int32} (hf : 5000 ≤ fu) (I : Iv s) (R : SR st s) (hO : ∀ k, k < 4096 → ones k = nI (pc k)) : (f_X8_tryDead fu 0 z l g st ones 0 (-1) (-1)).bind (fun t => X8_dead_L30 fu st rf ones v1 fu t.1 t.2.1 t.2.2.1 t.2.2.2 0) = dEnd fu v1 rf (dAll s (0, z, l, g)) := by
  have e0 := x8_tryDead (fu := fu) (d1 := 65535) (d2 := 65535) (v1 := 0) (m := 0) (z := z) (l := l) (g := g) hf I R hO (by omega) (by omega)
  rw [show f_X8_tryDead fu 0 z l g st ones 0 (-1) (-1) = _ from e0, pz_bind]
  have inner : ∀ (rec59 : Int32 → Int32 → Int32 → Int32 → Int32 → Option (Int32 × Int32 × Int32 × Int32 × Int32 × (Nat → Int32))) (c : Nat) (a : S4), c < 60 → X8_dead_L69 fu rec59 st rf ones v1 (nI c) fu a.1 a.2.1 a.2.2.1 a.2.2.2 (nI (c + 1)) = rec59 (if winB s c = true then gC s c a else a).1 (if winB s c = true then gC s c a else a).2.1 (if winB s c = true then gC s c a else a).2.2.1 (if winB s c = true then gC s c a else a).2.2.2 (nI (c + 1)) := by
    intro rec59 c a hc
    have e := pz_fo (fun n k (a : S4) => X8_dead_L69 fu rec59 st rf ones v1 (nI c) n a.1 a.2.1 a.2.2.1 a.2.2.2 (nI k)) (fun j => winB s c && winB s j) 60 (gB s c) (fun b => rec59 b.1 b.2.1 b.2.2.1 b.2.2.2 (nI (c + 1))) (fun n j b hj => ?_) (fun n b => ?_) (60 - (c + 1)) (c + 1) fu a (by omega) (by omega)
    · refine e.trans ?_
      cases hw : winB s c
      · rw [show (fun j => false && winB s j) = (fun _ => false) from rfl, fo_none (fun _ => rfl), if_neg (by decide)]
      · rw [if_pos rfl, gC, show (fun j => true && winB s j) = winB s from by funext j; rw [Bool.true_and]]
    · have et := x8_tryDead (fu := fu) (d1 := c) (d2 := j) (v1 := 2) (m := b.1) (z := b.2.1) (l := b.2.2.1) (g := b.2.2.2) hf I R hO (by omega) (by omega)
      rw [eI_of (n := c) (by omega), eI_of (n := j) (by omega), if_pos rfl] at et
      try simp only
      rw [X8_dead_L69]
      generalize X8_dead_L69 fu rec59 st rf ones v1 (nI c) n = rec
      rw [if_neg (by rw [pz_c60, pz_le (by decide) (by omega)]; omega), x8_isWindow I R, vN_n (by omega), pz_bind]
      cases hw : winB s c
      · rw [if_pos b_f, X8_dead_J98, nI_1, Bool.false_and, if_neg (by decide)]
      · rw [if_neg b_t, x8_isWindow I R, vN_n (by omega), pz_bind, Bool.true_and]
        cases hj2 : winB s j
        · rw [if_pos b_f, X8_dead_J98, nI_1, if_neg (by decide)]
        · rw [if_neg b_t, et, pz_bind, X8_dead_J98, nI_1, if_pos rfl]
          rfl
    · try simp only
      rw [X8_dead_L69, if_pos (by decide +kernel), nI_1]
  have one : ∀ a : S4, X8_dead_L30 fu st rf ones v1 fu a.1 a.2.1 a.2.2.1 a.2.2.2 (nI 0) = X8_dead_L59 fu st rf ones v1 fu (fo (winB s) (gA s) 60 0 a).1 (fo (winB s) (gA s) 60 0 a).2.1 (fo (winB s) (gA s) 60 0 a).2.2.1 (fo (winB s) (gA s) 60 0 a).2.2.2 (nI 0) := by
    intro a
    refine pz_fo (fun n k (a : S4) => X8_dead_L30 fu st rf ones v1 n a.1 a.2.1 a.2.2.1 a.2.2.2 (nI k)) (winB s) 60 (gA s) (fun b => X8_dead_L59 fu st rf ones v1 fu b.1 b.2.1 b.2.2.1 b.2.2.2 (nI 0)) (fun n c b hc => ?_) (fun n b => ?_) 60 0 fu a (by omega) (by omega)
    · have et := x8_tryDead (fu := fu) (d1 := c) (d2 := 65535) (v1 := 1) (m := b.1) (z := b.2.1) (l := b.2.2.1) (g := b.2.2.2) hf I R hO (by omega) (by omega)
      rw [eI_of (n := c) (by omega), if_neg (by decide)] at et
      have hcg : tk s (d2P c 65535) 1 (nI c) (nI c) (b.1, b.2.1, b.2.2.1, b.2.2.2) = gA s c b := by
        unfold gA tk
        rw [soAll_cong I (p := d2P c 65535) (q := d2P c c) (fun x hx => by
          rw [d2P, d2P, decide_eq_false (show ¬ x = 65535 by omega), Bool.or_false, Bool.or_self]) (s 4) (Nat.le_refl _)]
      rw [hcg] at et
      try simp only
      rw [X8_dead_L30]
      generalize X8_dead_L30 fu st rf ones v1 n = rec
      rw [if_neg (by rw [pz_c60, pz_le (by decide) (by omega)]; omega), x8_isWindow I R, vN_n (by omega), pz_bind]
      cases hw : winB s c
      · rw [if_pos b_f, X8_dead_J51, nI_1, if_neg (by decide)]
      · rw [if_neg b_t, show f_X8_tryDead fu b.1 b.2.1 b.2.2.1 b.2.2.2 st ones 1 (nI c) (-1) = _ from et, pz_bind, X8_dead_J51, nI_1, if_pos rfl]
    · try simp only
      rw [X8_dead_L30, if_pos (by decide +kernel)]
      rfl
  have two : ∀ a : S4, X8_dead_L59 fu st rf ones v1 fu a.1 a.2.1 a.2.2.1 a.2.2.2 (nI 0) = dEnd fu v1 rf (fo (winB s) (gC s) 60 0 a) := by
    intro a
    refine pz_fo (fun n k (a : S4) => X8_dead_L59 fu st rf ones v1 n a.1 a.2.1 a.2.2.1 a.2.2.2 (nI k)) (winB s) 60 (gC s) (dEnd fu v1 rf) (fun n c b hc => ?_) (fun n b => ?_) 60 0 fu a (by omega) (by omega)
    · have ei := inner (X8_dead_L59 fu st rf ones v1 n) c b hc
      try simp only
      rw [X8_dead_L59, if_neg (by rw [pz_c60, pz_le (by decide) (by omega)]; omega), nI_1]
      exact ei
    · try simp only
      rw [X8_dead_L59, if_pos (by decide +kernel)]
      rfl
  exact (one _).trans (two _)
theorem q_dead {q_wall_wide : Int32} {q_wall_high : Int32} {q_wall_slackNow : Int32} {q_wall_tenants : Int32} {q_wall_letters : Int32} {q_wall_readings : Int32} {q_wall_kinds : Nat → Int32} {q_wall_painOf : Nat → Int32} {q_wall_payFor : Nat → Int32} {q_wall_refused : Nat → Int32} {q_wall_owned : Nat → Int64} {q_wall_litIn : Nat → Int64} {q_wall_shapes : Nat → Int32} {q_wall_readAt : Nat → Int32} {q_wall_meant : Nat → Int32} {q_wall_readSo : Nat → Int32} {u_st u_refused u_ones : Nat → Int32} {q_wereBad q_wereNo q_wereFull : Int32} {q_darkLamps_sets : Int32} {q_darkLamps_size : Int32} {q_darkLamps_least : Int32} {q_darkLamps_greatest : Int32} {q_darkLamps_windows : Nat → Int32} {q_darkLamps_shown : Nat → Int64} {q_darkLamps_soWithout : Nat → Int32} {u_deadMany : Int32} {u_deadSize : Int32} {u_deadLeast : Int32} {u_deadMost : Int32} (v1 : Int32) (hf : 5000 ≤ fu) (I : Iv s) (W : WR q_wall_wide q_wall_high q_wall_slackNow q_wall_tenants q_wall_letters q_wall_readings q_wall_kinds q_wall_painOf q_wall_payFor q_wall_refused q_wall_owned q_wall_litIn q_wall_shapes q_wall_readAt q_wall_meant q_wall_readSo s) (R : SR u_st s) (hS : SS u_refused q_wereBad q_wereNo q_wereFull) (hO : ∀ k, k < 4096 → u_ones k = nI (pc k)) : ∃ r u, f_X7_dead fu q_wereBad q_wereNo q_wereFull q_wall_wide q_wall_high q_wall_slackNow q_wall_letters q_wall_readings q_wall_shapes q_wall_readAt q_wall_meant q_wall_readSo q_darkLamps_sets q_darkLamps_size q_darkLamps_least q_darkLamps_greatest q_darkLamps_windows q_darkLamps_shown q_darkLamps_soWithout v1 = some r ∧ f_X8_dead fu u_deadMany u_deadSize u_deadLeast u_deadMost u_st u_refused u_ones v1 = some u ∧ r.1 = u.1 ∧ SS u.2.2.2.2.2 r.2.1 r.2.2.1 r.2.2.2.1 := by
  obtain ⟨⟨rfl, rfl, rfl, rfl, rfl, rfl⟩, T, L, S, D⟩ := W
  rw [f_X7_dead, f_X8_dead, show f_X8_in fu v1 0 3 = _ from x8_in (lo := 0) (hi := 3) (by decide) (by decide) v1, pz_bind]
  by_cases h3 : vN v1 ≤ 3
  · have ev := vN_e (v := v1) (by omega)
    have n1 : ¬ v1 < 0 := by rw [ev]; exact nI_pos (by omega)
    have l1 : v1 ≤ 3 := by rw [ev, pz_c3, pz_le (by omega) (by decide)]; exact h3
    rw [if_neg n1, if_pos l1, decide_eq_true (show 0 ≤ vN v1 ∧ vN v1 ≤ 3 from ⟨Nat.zero_le _, h3⟩), if_neg b_t]
    obtain ⟨r, er, e1⟩ := x0_find (fu := fu) (m := q_darkLamps_sets) (z := q_darkLamps_size) (l := q_darkLamps_least) (g := q_darkLamps_greatest) (wn := q_darkLamps_windows) (soW := q_darkLamps_soWithout) (shown := q_darkLamps_shown) hf I S D
    rw [er, pz_bind, x8_deadAll hf I R hO]
    have hsm : sm (dAll s (0, q_darkLamps_size, q_darkLamps_least, q_darkLamps_greatest)) (dAll s (0, u_deadSize, u_deadLeast, u_deadMost)) := sm_all (Or.inr ⟨rfl, rfl⟩)
    rw [← e1] at hsm
    generalize dAll s (0, u_deadSize, u_deadLeast, u_deadMost) = b at *
    rw [dEnd]
    have h01 : r.1 = b.1 := by
      rcases hsm with q | ⟨q1, q2⟩
      · rw [← q]
      · rw [q2]; exact q1
    by_cases z0 : v1 = 0
    · rw [if_pos z0, if_pos z0]
      exact ⟨_, _, rfl, rfl, h01, hS⟩
    · rw [if_neg z0, if_neg z0]
      by_cases zb : b.1 = 0
      · rw [if_pos (h01.trans zb), if_pos zb, c_no, pz_bind, t_no, pz_bind]
        exact ⟨_, _, rfl, rfl, rfl, SS_no hS⟩
      · rw [if_neg (fun q => zb (h01.symm.trans q)), if_neg zb]
        rcases hsm with q | ⟨q1, q2⟩
        · rw [← q]
          by_cases z1 : v1 = 1
          · rw [if_pos z1, if_pos z1]
            exact ⟨_, _, rfl, rfl, rfl, hS⟩
          · rw [if_neg z1, if_neg z1]
            by_cases z2 : v1 = 2
            · rw [if_pos z2, if_pos z2]
              exact ⟨_, _, rfl, rfl, rfl, hS⟩
            · rw [if_neg z2, if_neg z2]
              exact ⟨_, _, rfl, rfl, rfl, hS⟩
        · exact absurd q2 zb
  · rw [decide_eq_false (show ¬ (0 ≤ vN v1 ∧ vN v1 ≤ 3) from fun q => h3 q.2), if_pos b_f, t_bad, pz_bind]
    by_cases n1 : v1 < 0
    · rw [if_pos n1, X7_dead_J9, c_bad, pz_bind]
      exact ⟨_, _, rfl, rfl, rfl, SS_bad hS⟩
    · have l1 : ¬ v1 ≤ 3 := by
        obtain ⟨q, hq, rfl⟩ := nI_of n1
        rw [vN_n hq] at h3
        rw [pz_c3, pz_le hq (by decide)]; exact h3
      rw [if_neg n1, if_neg l1, X7_dead_J9, c_bad, pz_bind]
      exact ⟨_, _, rfl, rfl, rfl, SS_bad hS⟩
end
