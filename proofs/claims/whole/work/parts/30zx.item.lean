/-! ITEMS of a plan -/
def nof (w : Nat) : Nat := if w = 0 then 2 else if w = 3 then 1 else if w = 5 then 1 else 3
theorem nof_le {w : Nat} : nof w ≤ 3 := by
  unfold nof
  split
  · omega
  · split
    · omega
    · split <;> omega
def iG (tl : Nat) (b : Nat → Nat) : Nat → Nat → Bool
  | 0, k => decide (tK tl b k = 2)
  | n + 1, k => decide (tK tl b k = 1) && iG tl b n (tE tl b k)
def iF (tl : Nat) (b : Nat → Nat) : Nat → Nat → Nat
  | 0, k => tP tl b k
  | n + 1, k => if tK tl b k = 1 then iF tl b n (tE tl b k) else tP tl b k
def iE (tl : Nat) (b : Nat → Nat) : Nat → Nat → Nat
  | 0, k => tE tl b k
  | n + 1, k => iE tl b n (tE tl b k)
def iV (tl : Nat) (b : Nat → Nat) : Nat → Nat → Nat
  | 0, k => tV tl b k
  | j + 1, k => iV tl b j (tE tl b k)
def gI (tl : Nat) (b : Nat → Nat) (q : Nat) : Prop := tK tl b q = 0 ∧ iG tl b (nof (tV tl b q)) (tE tl b q) = true
def fI (tl : Nat) (b : Nat → Nat) (q : Nat) : Nat := if tK tl b q = 0 then iF tl b (nof (tV tl b q)) (tE tl b q) else tP tl b q
def zI (tl : Nat) (b : Nat → Nat) (q : Nat) : Nat := iE tl b (nof (tV tl b q)) (tE tl b q)
def qI (tl : Nat) (b : Nat → Nat) : Nat → Nat
  | 0 => 0
  | i + 1 => zI tl b (qI tl b i)
theorem iE_rng {tl : Nat} {b : Nat → Nat} : ∀ n k, k ≤ tl → iG tl b n k = true → k < iE tl b n k ∧ iE tl b n k ≤ tl
  | 0, k, h, g => by
    have q := of_decide_eq_true g
    have := tE_rng (b := b) h
    rw [iE]; omega
  | n + 1, k, h, g => by
    rw [iG, Bool.and_eq_true] at g
    have q := of_decide_eq_true g.1
    have h1 := tE_rng (b := b) h
    have h2 := iE_rng n (tE tl b k) h1.2.2.1 g.2
    rw [iE]; omega
theorem iF_le {tl : Nat} {b : Nat → Nat} : ∀ n k, k ≤ tl → iF tl b n k ≤ tl
  | 0, k, h => (tP_rng h).2
  | n + 1, k, h => by
    rw [iF]
    split
    · exact iF_le n _ (tE_rng h).2.2.1
    · exact (tP_rng h).2
theorem iV_lt {tl : Nat} {b : Nat → Nat} : ∀ n k j, iG tl b n k = true → j < n → iV tl b j k < 10000
  | 0, k, j, g, h => absurd h (Nat.not_lt_zero j)
  | n + 1, k, j, g, h => by
    rw [iG, Bool.and_eq_true] at g
    cases j with
    | zero => exact tV_num (of_decide_eq_true g.1)
    | succ j => exact iV_lt n _ j g.2 (by omega)
theorem fI_le {tl q : Nat} {b : Nat → Nat} (h : q ≤ tl) : fI tl b q ≤ tl := by
  unfold fI
  split
  · exact iF_le _ _ (tE_rng h).2.2.1
  · exact (tP_rng h).2
theorem zI_rng {tl q : Nat} {b : Nat → Nat} (h : q ≤ tl) (g : gI tl b q) : q + 2 ≤ zI tl b q ∧ zI tl b q ≤ tl := by
  have h1 := tE_rng (b := b) h
  have h2 := iE_rng _ _ h1.2.2.1 g.2
  have h3 := h1.2.2.2 (by rw [g.1]; decide)
  unfold zI
  omega
theorem tK_end {tl k : Nat} {b : Nat → Nat} (h : k ≤ tl) (h2 : tl ≤ k) : tK tl b k = 3 := by
  have := tP_rng (b := b) h
  unfold tK pK
  rw [if_pos (by omega)]
section
variable {fu : Nat} {tl : Nat} {b : Nat → Nat} {bytes text : Nat → Int32} {len ts : Int32}
theorem x4_numbersOf {w : Nat} (h : w < 6) : f_X4_numbersOf fu (nI w) = some (nI (nof w)) := by
  rw [f_X4_numbersOf]
  rcases (show w = 0 ∨ w = 1 ∨ w = 2 ∨ w = 3 ∨ w = 4 ∨ w = 5 by omega) with rfl | rfl | rfl | rfl | rfl | rfl <;> decide +kernel
theorem x8_numbersOf {w : Nat} (h : w < 6) : f_X8_numbersOf fu (nI w) = some (nI (nof w)) := by
  rw [f_X8_numbersOf, X8_numbersOf_J18]
  rcases (show w = 0 ∨ w = 1 ∨ w = 2 ∨ w = 3 ∨ w = 4 ∨ w = 5 by omega) with rfl | rfl | rfl | rfl | rfl | rfl <;> decide +kernel
theorem x4_item {w it : Nat} {words : Nat → Int32} (X : TX tl b len bytes ts text) (hf : 5000 ≤ fu) (hw : w < 6) (hi : it < 100) : ∀ m i n k tk ta tv num, m + i = nof w → m < n → k ≤ tl → ∃ r, X4_takeItem_L12 fu len (nI it) bytes words (nI w) n (nI k) tk ta tv num (nI i) = some r ∧ ((iG tl b m k = true ∧ r.1 = 1 ∧ r.2.1 = nI (iE tl b m k) ∧ r.2.2.2.2.2.1 = words ∧ (∀ j, j < m → r.2.2.2.2.2.2 (it * 3 + i + j) = nI (iV tl b j k)) ∧ (∀ x, x < it * 3 + i → r.2.2.2.2.2.2 x = num x)) ∨ (iG tl b m k = false ∧ r.1 = 0 ∧ r.2.2.2.1 = nI (iF tl b m k)))
  | _, _, 0, _, _, _, _, _, _, h, _ => absurd h (Nat.not_lt_zero _)
  | 0, i, n + 1, k, tk, ta, tv, num, h1, h2, h3 => by
    have hn := nof_le (w := w)
    obtain ⟨tv2, e, -⟩ := x4_takeToken (tk := tk) (ta := ta) (tv := tv) X hf h3
    have h8 := t8_K (tl := tl) (b := b) (k := k)
    have hk4 : tK tl b k < 100 := by
      unfold tK pK
      split
      · omega
      · split
        · split <;> omega
        · split
          · split <;> omega
          · split <;> omega
    rw [X4_takeItem_L12, x4_numbersOf hw, pz_bind, if_pos (by rw [pz_le (by omega) (by omega)]; omega), e, pz_bind]
    try simp only
    by_cases g : tK tl b k = 2
    · rw [if_pos (by rw [g]; rfl)]
      exact ⟨_, rfl, Or.inl ⟨decide_eq_true g, rfl, rfl, rfl, fun j hj => absurd hj (Nat.not_lt_zero j), fun x _ => rfl⟩⟩
    · rw [if_neg (by rw [pz_c2, pz_eq (by omega) (by omega)]; exact g)]
      exact ⟨_, rfl, Or.inr ⟨decide_eq_false g, rfl, rfl⟩⟩
  | m + 1, i, n + 1, k, tk, ta, tv, num, h1, h2, h3 => by
    have hn := nof_le (w := w)
    obtain ⟨tv2, e, ev⟩ := x4_takeToken (tk := tk) (ta := ta) (tv := tv) X hf h3
    have hk4 : tK tl b k < 100 := by
      unfold tK pK
      split
      · omega
      · split
        · split <;> omega
        · split
          · split <;> omega
          · split <;> omega
    rw [X4_takeItem_L12, x4_numbersOf hw, pz_bind, if_neg (by rw [pz_le (by omega) (by omega)]; omega), e, pz_bind]
    try simp only
    by_cases g : tK tl b k = 1
    · rw [if_pos (by rw [g]; rfl), pz_c3, pk_mul, nI_add, pz_ck _ (by omega) (by omega), pz_cl (by omega), nI_1, ev (by omega)]
      obtain ⟨r, e1, e2⟩ := x4_item X hf hw hi m (i + 1) n (tE tl b k) (nI (tK tl b k)) (nI (tP tl b k)) (nI (tV tl b k)) (upd num (it * 3 + i) (nI (tV tl b k))) (by omega) (by omega) (tE_rng h3).2.2.1
      refine ⟨r, e1, ?_⟩
      rcases e2 with ⟨f1, f2, f3, f4, f5, f6⟩ | ⟨f1, f2, f3⟩
      · refine Or.inl ⟨by rw [iG, decide_eq_true g, f1]; rfl, f2, f3, f4, fun j hj => ?_, fun x hx => ?_⟩
        · cases j with
          | zero => rw [Nat.add_zero, f6 _ (by omega), pk_us, iV]
          | succ j =>
            rw [iV, ← f5 j (by omega)]
            exact congrArg r.2.2.2.2.2.2 (by omega)
        · rw [f6 x (by omega), pk_un (by omega)]
      · exact Or.inr ⟨by rw [iG, f1, Bool.and_false], f2, by rw [iF, if_pos g]; exact f3⟩
    · rw [if_neg (by rw [pz_c1, pz_eq (by omega) (by omega)]; exact g)]
      exact ⟨_, rfl, Or.inr ⟨by rw [iG, decide_eq_false g]; rfl, rfl, by rw [iF, if_neg g]⟩⟩
end
