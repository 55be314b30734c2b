/-! TOKENS: one token, in a plan and as the reference takes it -/
def tP (tl : Nat) (b : Nat → Nat) (k : Nat) : Nat := skN tl b (tl - k) k
def fE (tl : Nat) (b : Nat → Nat) (p : Nat) : Nat := fgN b (tl - p) p
def lE (tl : Nat) (b : Nat → Nat) (p : Nat) : Nat := ltN b (tl - p) p
/-- kinds: 0 a known word, 1 a number, 2 a stop, 3 the end, 4 none of these -/
def pK (tl : Nat) (b : Nat → Nat) (p : Nat) : Nat := if p = tl then 3 else if isF (b p) = true then (if fE tl b p - p ≤ 4 then 1 else 4) else if isS (b p) = true then (if wdV b p (lE tl b p - p) 6 = 6 then 4 else 0) else if b p = 59 then 2 else 4
def pE (tl : Nat) (b : Nat → Nat) (p : Nat) : Nat := if p = tl then tl else if isF (b p) = true then fE tl b p else if isS (b p) = true then lE tl b p else p + 1
def pV (tl : Nat) (b : Nat → Nat) (p : Nat) : Nat := if isF (b p) = true then nuV b p (fE tl b p - p) else wdV b p (lE tl b p - p) 6
def p8 (tl : Nat) (b : Nat → Nat) (p : Nat) : Nat := if p = tl then 0 else if isF (b p) = true then (if 5 ≤ fE tl b p - p then 4 else 2) else if isS (b p) = true then 1 else if b p = 59 then 3 else 4
def tK (tl : Nat) (b : Nat → Nat) (k : Nat) : Nat := pK tl b (tP tl b k)
def tE (tl : Nat) (b : Nat → Nat) (k : Nat) : Nat := pE tl b (tP tl b k)
def tV (tl : Nat) (b : Nat → Nat) (k : Nat) : Nat := pV tl b (tP tl b k)
def t8 (tl : Nat) (b : Nat → Nat) (k : Nat) : Nat := p8 tl b (tP tl b k)
theorem fgN_in {b : Nat → Nat} : ∀ m k i, k ≤ i → i < fgN b m k → isF (b i) = true
  | 0, k, i, h1, h2 => absurd h2 (by rw [fgN]; omega)
  | m + 1, k, i, h1, h2 => by
    rw [fgN] at h2
    by_cases g : isF (b k) = true
    · rw [if_pos g] at h2
      by_cases q : i = k
      · rw [q]; exact g
      · exact fgN_in m (k + 1) i (by omega) h2
    · rw [if_neg g] at h2; omega
theorem fgN_pos {b : Nat → Nat} {m k : Nat} (h : isF (b k) = true) : k < fgN b (m + 1) k := by
  rw [fgN, if_pos h]
  have := fgN_rng (b := b) m (k + 1)
  omega
theorem wdV_le {b : Nat → Nat} {p n : Nat} : ∀ i, i ≤ 6 → wdV b p n i ≤ 6
  | 0, _ => by rw [wdV]; omega
  | i + 1, h => by
    rw [wdV]
    split
    · omega
    · exact wdV_le i (by omega)
theorem tP_rng {tl k : Nat} {b : Nat → Nat} (h : k ≤ tl) : k ≤ tP tl b k ∧ tP tl b k ≤ tl := by
  have := skN_rng (tl := tl) (b := b) (tl - k) k
  unfold tP
  omega
theorem fE_rng {tl p : Nat} {b : Nat → Nat} (h : p < tl) (g : isF (b p) = true) : p < fE tl b p ∧ fE tl b p ≤ tl := by
  have := fgN_rng (b := b) (tl - p) p
  have h2 := fgN_pos (m := tl - p - 1) g
  rw [show tl - p - 1 + 1 = tl - p by omega] at h2
  unfold fE
  omega
theorem lE_rng {tl p : Nat} {b : Nat → Nat} (h : p < tl) (g : isS (b p) = true) : p < lE tl b p ∧ lE tl b p ≤ tl := by
  have := ltN_rng (b := b) (tl - p) p
  have h2 := ltN_pos (m := tl - p - 1) g
  rw [show tl - p - 1 + 1 = tl - p by omega] at h2
  unfold lE
  omega
theorem tE_rng {tl k : Nat} {b : Nat → Nat} (h : k ≤ tl) : tP tl b k ≤ tE tl b k ∧ k ≤ tE tl b k ∧ tE tl b k ≤ tl ∧ (tK tl b k ≠ 3 → k < tE tl b k) := by
  have h1 := tP_rng (b := b) h
  unfold tE tK pE pK
  generalize tP tl b k = p at *
  by_cases g : p = tl
  · rw [if_pos g, if_pos g]; omega
  · rw [if_neg g, if_neg g]
    by_cases g1 : isF (b p) = true
    · have := fE_rng (tl := tl) (by omega) g1
      rw [if_pos g1]; omega
    · rw [if_neg g1]
      by_cases g2 : isS (b p) = true
      · have := lE_rng (tl := tl) (by omega) g2
        rw [if_pos g2]; omega
      · rw [if_neg g2]; omega
theorem tV_word {tl k : Nat} {b : Nat → Nat} (h : tK tl b k = 0) : tV tl b k < 6 := by
  unfold tK pK at h
  unfold tV pV
  generalize tP tl b k = p at *
  by_cases g : p = tl
  · rw [if_pos g] at h; omega
  · rw [if_neg g] at h
    by_cases g1 : isF (b p) = true
    · rw [if_pos g1] at h
      split at h <;> omega
    · rw [if_neg g1] at h ⊢
      by_cases g2 : isS (b p) = true
      · rw [if_pos g2] at h
        have := wdV_le (b := b) (p := p) (n := lE tl b p - p) 6 (Nat.le_refl _)
        by_cases g3 : wdV b p (lE tl b p - p) 6 = 6
        · rw [if_pos g3] at h; omega
        · omega
      · rw [if_neg g2] at h
        split at h <;> omega
theorem tV_num {tl k : Nat} {b : Nat → Nat} (h : tK tl b k = 1) : tV tl b k < 10000 := by
  unfold tK pK at h
  unfold tV pV
  generalize tP tl b k = p at *
  by_cases g : p = tl
  · rw [if_pos g] at h; omega
  · rw [if_neg g] at h
    by_cases g1 : isF (b p) = true
    · rw [if_pos g1]
      refine (nuV_lt _ (fun i hi => ?_)).2.2.2.2
      exact fgN_in (tl - p) p (p + i) (by omega) (by unfold fE at hi; omega)
    · rw [if_neg g1] at h
      split at h
      · split at h <;> omega
      · split at h <;> omega
theorem t8_K {tl k : Nat} {b : Nat → Nat} : t8 tl b k ≤ 4 ∧ (t8 tl b k = 0 ↔ tK tl b k = 3) ∧ (t8 tl b k = 2 ↔ tK tl b k = 1) ∧ (t8 tl b k = 3 ↔ tK tl b k = 2) := by
  unfold t8 p8 tK pK
  generalize tP tl b k = p at *
  generalize fE tl b p - p = n
  by_cases g : p = tl
  · rw [if_pos g, if_pos g]; omega
  · rw [if_neg g, if_neg g]
    by_cases g1 : isF (b p) = true
    · rw [if_pos g1, if_pos g1]
      by_cases g4 : 5 ≤ n
      · rw [if_pos g4, if_neg (by omega)]; omega
      · rw [if_neg g4, if_pos (by omega)]; omega
    · rw [if_neg g1, if_neg g1]
      by_cases g2 : isS (b p) = true
      · rw [if_pos g2, if_pos g2]
        split <;> omega
      · rw [if_neg g2, if_neg g2]
        split <;> omega
section
variable {fu : Nat} {tl : Nat} {b : Nat → Nat} {bytes text : Nat → Int32} {len ts : Int32}
theorem x4_takeToken {tk ta tv : Int32} {k : Nat} (X : TX tl b len bytes ts text) (hf : 5000 ≤ fu) (hk : k ≤ tl) : ∃ tv2, f_X4_takeToken fu len (nI k) tk ta tv bytes = some (nI (tE tl b k), nI (tK tl b k), nI (tP tl b k), tv2) ∧ (tK tl b k ≤ 1 → tv2 = nI (tV tl b k)) := by
  have x3 := X.2.2.1
  have hp := tP_rng (b := b) hk
  rw [f_X4_takeToken, x4_skip X (tl - k) k fu (by omega) (by omega)]
  unfold tE tK tV
  rw [show skN tl b (tl - k) k = tP tl b k from rfl]
  generalize tP tl b k = p at *
  unfold pK pE pV
  rw [X4_takeToken_J38]
  by_cases g : p = tl
  · rw [if_neg (by rw [X.1, pz_lt (by omega) (by omega)]; omega), if_pos g, if_pos g, g]
    exact ⟨tv, rfl, fun q => by omega⟩
  · obtain ⟨c1, c2, -⟩ := X.2.2.2 p (by omega)
    rw [if_pos (by rw [X.1, pz_lt (by omega) (by omega)]; omega), pz_rd _ _ (by omega) (by omega), c2, x4_isFigure c1, pz_bind, if_neg g, if_neg g]
    cases g1 : isF (b p)
    · rw [if_pos b_f, pz_rd _ _ (by omega) (by omega), c2, x4_isSmallLetter c1, pz_bind, if_neg (show ¬ false = true by decide), if_neg (show ¬ false = true by decide), if_neg (show ¬ false = true by decide)]
      cases g2 : isS (b p)
      · rw [if_pos b_f, pz_rd _ _ (by omega) (by omega), c2, if_neg (show ¬ false = true by decide), if_neg (show ¬ false = true by decide)]
        by_cases g3 : b p = 59
        · rw [if_pos (by rw [g3]; rfl), if_pos g3, X4_takeToken_J129, nI_1]
          exact ⟨tv, rfl, fun q => by omega⟩
        · rw [if_neg (by rw [pz_c59, pz_eq (by omega) (by omega)]; exact g3), if_neg g3, X4_takeToken_J129, nI_1]
          exact ⟨tv, rfl, fun q => by omega⟩
      · have hl := lE_rng (tl := tl) (by omega) g2
        have e := x4_letters (fu := fu) (tk := tk) (ta := nI p) (tv := tv) X (tl - p) p fu (by omega) (by omega)
        rw [show ltN b (tl - p) p = lE tl b p from rfl, x4_word X hf (by omega) hl.2] at e
        rw [if_neg b_t, f_X4_takeWord, e, pz_bind, if_pos (show true = true from rfl), if_pos (show true = true from rfl)]
        by_cases g3 : wdV b p (lE tl b p - p) 6 = 6
        · rw [if_pos g3, if_pos g3, if_pos g3]
          exact ⟨tv, rfl, fun q => by omega⟩
        · rw [if_neg g3, if_neg g3, if_neg g3]
          exact ⟨_, rfl, fun q => rfl⟩
    · have e : X4_takeNumber_L5 fu len tk (nI p) bytes fu (nI p) 0 = _ := x4_number (fu := fu) (tk := tk) (k0 := p) X (tl - p) 0 fu (by omega) (by omega) (fun i hi => absurd hi (Nat.not_lt_zero i))
      have hl := fE_rng (tl := tl) (by omega) g1
      rw [Nat.add_zero, show fgN b (tl - p) p = fE tl b p from rfl] at e
      rw [if_neg b_t, f_X4_takeNumber, e, X4_takeNumber_J81, pk_sub (by omega), if_pos (show true = true from rfl), if_pos (show true = true from rfl), if_pos (show true = true from rfl)]
      by_cases g4 : fE tl b p - p ≤ 4
      · rw [if_pos (by rw [pz_c4, pz_le (by omega) (by omega)]; exact g4), if_pos g4, X4_takeNumber_J100, pz_bind]
        exact ⟨_, rfl, fun q => rfl⟩
      · rw [if_neg (by rw [pz_c4, pz_le (by omega) (by omega)]; exact g4), if_neg g4, X4_takeNumber_J100, pz_bind]
        exact ⟨_, rfl, fun q => by omega⟩
theorem wc_lt : ∀ i, i < 6 → wcN i < 2 ^ 63 := by decide +kernel
theorem wc_inj : ∀ i, i < 6 → ∀ j, j < 6 → wcN i = wcN j → i = j := by decide +kernel
theorem x8_item {p n : Nat} (hb : ∀ k, k < n → 97 ≤ b (p + k) ∧ b (p + k) ≤ 122) : f_X8_item fu 1 (lN (pkN b p n)) = some (if wdV b p n 6 = 6 then -1 else nI (wdV b p n 6)) := by
  have hl : pkN b p n < 2 ^ 63 := Nat.lt_trans (pkN_lt n (fun k hk => by have := hb k hk; omega)).2 (by decide)
  have hc : ∀ i, i < 6 → (lg_cmp (lN (pkN b p n)) (lN (wcN i)) = 0) = (mtB b p n i = true) := fun i hi => (show (lg_cmp (lN (pkN b p n)) (lN (wcN i)) = 0) = _ from pz_cmp hl (wc_lt i hi)).trans (pk_word hb hi)
  have hw : wdV b p n 6 = if mtB b p n 5 = true then 5 else if mtB b p n 4 = true then 4 else if mtB b p n 3 = true then 3 else if mtB b p n 2 = true then 2 else if mtB b p n 1 = true then 1 else if mtB b p n 0 = true then 0 else 6 := rfl
  have hi : f_X8_item fu 1 (lN (pkN b p n)) = some (if mtB b p n 0 = true then 0 else if mtB b p n 1 = true then 1 else if mtB b p n 2 = true then 2 else if mtB b p n 3 = true then 3 else if mtB b p n 4 = true then 4 else if mtB b p n 5 = true then 5 else -1) := by
    rw [f_X8_item, if_pos rfl, show (2002873452 : Int64) = lN (wcN 0) from rfl, show (127978992397940 : Int64) = lN (wcN 1) from rfl, show (6840691 : Int64) = lN (wcN 2) from rfl, show (119183001281906 : Int64) = lN (wcN 3) from rfl, show (7104884 : Int64) = lN (wcN 4) from rfl, show (495739560811 : Int64) = lN (wcN 5) from rfl]
    simp only [hc 0 (by decide), hc 1 (by decide), hc 2 (by decide), hc 3 (by decide), hc 4 (by decide), hc 5 (by decide)]
    repeat' split
    all_goals rfl
  rw [hi, hw]
  by_cases g : ∃ i, i < 6 ∧ mtB b p n i = true
  · obtain ⟨i, g1, g2⟩ := g
    have e : ∀ j, j < 6 → mtB b p n j = decide (j = i) := fun j hj => by
      by_cases q : j = i
      · rw [q, g2, decide_eq_true rfl]
      · rw [decide_eq_false q, Bool.eq_false_iff]
        intro r
        rw [← pk_word hb hj] at r
        rw [← pk_word hb g1] at g2
        exact q (wc_inj j hj i g1 (r.symm.trans g2))
    rw [e 0 (by decide), e 1 (by decide), e 2 (by decide), e 3 (by decide), e 4 (by decide), e 5 (by decide)]
    clear e g2
    rcases (show i = 0 ∨ i = 1 ∨ i = 2 ∨ i = 3 ∨ i = 4 ∨ i = 5 by omega) with rfl | rfl | rfl | rfl | rfl | rfl <;> decide +kernel
  · have e : ∀ j, j < 6 → mtB b p n j = false := fun j hj => by
      rw [Bool.eq_false_iff]
      exact fun r => g ⟨j, hj, r⟩
    rw [e 0 (by decide), e 1 (by decide), e 2 (by decide), e 3 (by decide), e 4 (by decide), e 5 (by decide)]
    decide +kernel
/-- what stands behind a token that was taken at k -/
def IO (fu tl : Nat) (b : Nat → Nat) (k : Nat) (nu : Int32) (wo : Int64) : Prop := f_X8_item fu (nI (t8 tl b k)) wo = some (if tK tl b k = 0 then nI (tV tl b k) else -1) ∧ (tK tl b k = 1 → nu = nI (tV tl b k))
theorem item_no {n : Nat} {wo : Int64} (h : n < 10) (h1 : n ≠ 1) : f_X8_item fu (nI n) wo = some (-1) := by
  rw [f_X8_item, if_neg (by rw [pz_c1, pz_eq (by omega) (by omega)]; exact h1)]
theorem x8_next {st tk nu : Int32} {wo : Int64} {k : Nat} (X : TX tl b len bytes ts text) (hf : 5000 ≤ fu) (hk : k ≤ tl) : ∃ nu2 wo2, f_X8_next fu ts (nI k) st tk nu wo text = some (nI (tE tl b k), nI (tP tl b k), nI (t8 tl b k), nu2, wo2) ∧ IO fu tl b k nu2 wo2 := by
  have x3 := X.2.2.1
  have hp := tP_rng (b := b) hk
  obtain ⟨n2, e0⟩ := x8_skip (fu := fu) (st := st) (tk := tk) (nu := nu) (wo := wo) X (tl - k) k fu (by omega) (by omega)
  have hne := skN_end (tl := tl) (b := b) (tl - k) k
  rw [f_X8_next, e0]
  unfold IO tE tK tV t8
  rw [show skN tl b (tl - k) k = tP tl b k from rfl] at *
  generalize tP tl b k = p at *
  unfold pK pE pV p8
  rw [X8_next_L0]
  by_cases g : p = tl
  · have eb : btN' tl b p = 65535 := by rw [btN', if_neg (by omega)]
    rw [x8_byteAt X (by omega), pz_bind, eb, if_neg (by decide +kernel), pz_bind, if_pos (show eI 65535 = -1 from rfl), if_pos g, if_pos g, if_pos g, g]
    exact ⟨_, _, rfl, item_no (by omega) (by omega), fun q => by omega⟩
  · obtain ⟨c1, -, c2⟩ := X.2.2.2 p (by omega)
    have hne2 := hne (by omega)
    have eb : btN' tl b p = b p := by rw [btN', if_pos (by omega)]
    have i1 : f_X8_in fu (nI (b p)) 97 122 = some (bI (isS (b p))) := by
      rw [show f_X8_in fu (nI (b p)) 97 122 = some (bI (decide (97 ≤ vN (nI (b p)) ∧ vN (nI (b p)) ≤ 122))) from x8_in (lo := 97) (hi := 122) (by decide) (by decide) _, vN_n (by omega)]; rfl
    have i2 : f_X8_in fu (nI (b p)) 48 57 = some (bI (isF (b p))) := by
      rw [show f_X8_in fu (nI (b p)) 48 57 = some (bI (decide (48 ≤ vN (nI (b p)) ∧ vN (nI (b p)) ≤ 57))) from x8_in (lo := 48) (hi := 57) (by decide) (by decide) _, vN_n (by omega)]; rfl
    rw [x8_byteAt X (by omega), pz_bind, eb, eI_of (by omega), if_neg (by rw [pz_c32, pz_eq (by omega) (by omega)]; exact hne2), pz_bind, if_neg (by rw [show (-1 : Int32) = -nI 1 from rfl, pz_eqm (by omega) (by decide) (by decide)]; exact id), i1, pz_bind, if_neg g, if_neg g, if_neg g]
    cases g2 : isS (b p)
    · rw [if_pos b_f, i2, pz_bind]
      cases g1 : isF (b p)
      · rw [if_pos b_f]
        simp only [Bool.false_eq_true, if_false]
        by_cases g3 : b p = 59
        · rw [if_pos (by rw [g3]; rfl), if_pos g3, if_pos g3, X8_next_J274, nI_1]
          exact ⟨_, _, rfl, item_no (by omega) (by omega), fun q => by omega⟩
        · rw [if_neg (by rw [pz_c59, pz_eq (by omega) (by omega)]; exact g3), if_neg g3, if_neg g3, X8_next_J274, nI_1]
          exact ⟨_, _, rfl, item_no (by omega) (by omega), fun q => by omega⟩
      · have e : X8_next_L163 fu ts (nI p) tk wo text fu (nI p) 0 = _ := x8_number (fu := fu) (tk := tk) (wo := wo) (k0 := p) X (tl - p) 0 fu (by omega) (by omega) (fun i hi => absurd hi (Nat.not_lt_zero i))
        have hl := fE_rng (tl := tl) (by omega) g1
        rw [Nat.add_zero, show fgN b (tl - p) p = fE tl b p from rfl] at e
        rw [if_neg b_t, e]
        simp only [if_true]
        by_cases g4 : 5 ≤ fE tl b p - p
        · rw [if_pos g4, if_pos g4, if_neg (show ¬ fE tl b p - p ≤ 4 by omega)]
          exact ⟨_, _, rfl, item_no (by omega) (by omega), fun q => by omega⟩
        · rw [if_neg g4, if_neg g4, if_pos (show fE tl b p - p ≤ 4 by omega)]
          exact ⟨_, _, rfl, item_no (by omega) (by omega), fun q => rfl⟩
    · have hl := lE_rng (tl := tl) (by omega) g2
      have g1 : isF (b p) = false := by
        have q1 := of_decide_eq_true g2
        exact decide_eq_false (by omega)
      have e : X8_next_L77 fu ts (nI p) 1 nu text fu (nI p) 0 = _ := x8_letters (fu := fu) (tk := 1) (nu := nu) (p := p) X (tl - p) 0 fu (by omega) (by omega) (fun i hi => absurd hi (Nat.not_lt_zero i))
      rw [Nat.add_zero, show ltN b (tl - p) p = lE tl b p from rfl] at e
      rw [if_neg b_t, e, g1]
      simp only [Bool.false_eq_true, if_false, if_true]
      refine ⟨_, _, rfl, ?_, fun q => ?_⟩
      · rw [show (nI 1 : Int32) = 1 from rfl, x8_item (fun k hk => by
          have q1 := of_decide_eq_true (ltN_in (b := b) (tl - p) p (p + k) (by omega) (by unfold lE at hk; omega))
          exact q1)]
        by_cases g3 : wdV b p (lE tl b p - p) 6 = 6
        · rw [if_pos g3, if_pos g3, if_neg (by omega)]
        · rw [if_neg g3, if_neg g3, if_pos rfl]
      · exact absurd q (by split <;> omega)
end
