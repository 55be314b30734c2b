/-! ITEMS: the whole plan parsed -/
theorem tK_le {tl k : Nat} {b : Nat → Nat} : tK tl b k ≤ 4 := by
  unfold tK pK
  split
  · omega
  · split
    · split <;> omega
    · split
      · split <;> omega
      · split <;> omega
/-- what the class has put down of the first n items -/
def ST (tl : Nat) (b : Nat → Nat) (n : Nat) (wd num : Nat → Int32) : Prop := ∀ i, i < n → wd i = nI (tV tl b (qI tl b i)) ∧ ∀ j, j < nof (tV tl b (qI tl b i)) → num (i * 3 + j) = nI (iV tl b j (tE tl b (qI tl b i)))
section
variable {fu : Nat} {tl : Nat} {b : Nat → Nat} {bytes text : Nat → Int32} {len ts : Int32}
theorem x4_parseOn (X : TX tl b len bytes ts text) (hf : 5000 ≤ fu) : ∀ m i n tk ta tv wd num, m + i = 100 → m < n → (∀ j, j < i → gI tl b (qI tl b j)) → 2 * i ≤ qI tl b i → qI tl b i ≤ tl → ST tl b i wd num → ∃ M r, M ≤ 100 ∧ X4_parse_L10 fu len bytes n (nI i) (nI (qI tl b i)) tk ta tv wd num = some r ∧ (∀ j, j < M → gI tl b (qI tl b j)) ∧ qI tl b M ≤ tl ∧ ((tK tl b (qI tl b M) = 3 ∧ r.1 = -1 ∧ r.2.1 = nI M ∧ ST tl b M r.2.2.2.2.2.2.1 r.2.2.2.2.2.2.2) ∨ (tK tl b (qI tl b M) ≠ 3 ∧ ¬ gI tl b (qI tl b M) ∧ r.1 = nI (fI tl b (qI tl b M))))
  | _, _, 0, _, _, _, _, _, _, h, _, _, _, _ => absurd h (Nat.not_lt_zero _)
  | 0, i, n + 1, tk, ta, tv, wd, num, h1, h2, h3, h4, h5, h6 => by
    have x3 := X.2.2.1
    obtain ⟨tv2, e, ev⟩ := x4_takeToken (tk := tk) (ta := ta) (tv := tv) X hf h5
    have hk := tK_end (b := b) h5 (by omega)
    rw [X4_parse_L10, if_pos (by rw [pz_c100, pz_le (by omega) (by omega)]; omega), e, pz_bind]
    try simp only
    rw [if_pos (by rw [hk]; rfl)]
    exact ⟨i, _, by omega, rfl, h3, h5, Or.inl ⟨hk, rfl, rfl, h6⟩⟩
  | m + 1, i, n + 1, tk, ta, tv, wd, num, h1, h2, h3, h4, h5, h6 => by
    have x3 := X.2.2.1
    obtain ⟨tv2, e, ev⟩ := x4_takeToken (tk := tk) (ta := ta) (tv := tv) X hf h5
    have h9 := tK_le (tl := tl) (b := b) (k := qI tl b i)
    rw [X4_parse_L10, if_neg (by rw [pz_c100, pz_le (by omega) (by omega)]; omega), e, pz_bind]
    try simp only
    by_cases hk : tK tl b (qI tl b i) = 3
    · rw [if_pos (by rw [hk]; rfl)]
      exact ⟨i, _, by omega, rfl, h3, h5, Or.inl ⟨hk, rfl, rfl, h6⟩⟩
    · rw [if_neg (by rw [pz_c3, pz_eq (by omega) (by omega)]; exact hk)]
      by_cases h0 : tK tl b (qI tl b i) = 0
      · have hw := tV_word h0
        have hE := tE_rng (b := b) h5
        have hn := nof_le (w := tV tl b (qI tl b i))
        obtain ⟨r, e1, e2⟩ := x4_item (words := upd wd i (nI (tV tl b (qI tl b i)))) X hf hw (show i < 100 by omega) (nof (tV tl b (qI tl b i))) 0 fu (tE tl b (qI tl b i)) (nI (tK tl b (qI tl b i))) (nI (tP tl b (qI tl b i))) (nI (tV tl b (qI tl b i))) num (by omega) (by omega) hE.2.2.1
        rw [if_pos (by rw [h0]; rfl), ev (by omega), f_X4_takeItem, pz_ck _ (by omega) (by omega), pz_cl (by omega), show X4_takeItem_L12 fu len (nI i) bytes (upd wd i (nI (tV tl b (qI tl b i)))) (nI (tV tl b (qI tl b i))) fu (nI (tE tl b (qI tl b i))) (nI (tK tl b (qI tl b i))) (nI (tP tl b (qI tl b i))) (nI (tV tl b (qI tl b i))) num 0 = some r from e1, pz_bind]
        rcases e2 with ⟨f1, f2, f3, f4, f5, f6⟩ | ⟨f1, f2, f3⟩
        · have hg : gI tl b (qI tl b i) := ⟨h0, f1⟩
          have hz := zI_rng h5 hg
          rw [if_neg (by rw [f2]; decide), nI_1, f3, f4]
          refine x4_parseOn X hf m (i + 1) n _ _ _ _ _ (by omega) (by omega) (fun j hj => ?_) (by rw [qI]; omega) (by rw [qI]; omega) (fun j hj => ?_)
          · rcases Nat.lt_or_ge j i with q | q
            · exact h3 j q
            · rw [show j = i by omega]; exact hg
          · rcases Nat.lt_or_ge j i with q | q
            · obtain ⟨g1, g2⟩ := h6 j q
              have hnj := nof_le (w := tV tl b (qI tl b j))
              exact ⟨by rw [pk_un (by omega), g1], fun x hx => by rw [f6 _ (by omega), g2 x hx]⟩
            · rw [show j = i by omega]
              exact ⟨pk_us, fun x hx => f5 x hx⟩
        · have hg : ¬ gI tl b (qI tl b i) := fun q => by
            have := q.2
            rw [f1] at this
            exact absurd this (by decide)
          rw [if_pos (by rw [f2])]
          exact ⟨i, _, by omega, rfl, h3, h5, Or.inr ⟨hk, hg, by rw [fI, if_pos h0]; exact f3⟩⟩
      · rw [if_neg (by rw [pz_c0, pz_eq (by omega) (by omega)]; exact h0)]
        exact ⟨i, _, by omega, rfl, h3, h5, Or.inr ⟨hk, fun q => h0 q.1, by rw [fI, if_neg h0]⟩⟩
theorem x4_parse {it pl tk ta tv : Int32} {wd num : Nat → Int32} (X : TX tl b len bytes ts text) (hf : 5000 ≤ fu) : ∃ M r, M ≤ 100 ∧ f_X4_parse fu len it pl tk ta tv bytes wd num = some r ∧ (∀ j, j < M → gI tl b (qI tl b j)) ∧ qI tl b M ≤ tl ∧ ((tK tl b (qI tl b M) = 3 ∧ r.1 = -1 ∧ r.2.1 = nI M ∧ ST tl b M r.2.2.2.2.2.2.1 r.2.2.2.2.2.2.2) ∨ (tK tl b (qI tl b M) ≠ 3 ∧ ¬ gI tl b (qI tl b M) ∧ r.1 = nI (fI tl b (qI tl b M)))) := by
  rw [f_X4_parse]
  exact x4_parseOn X hf 100 0 fu tk ta tv wd num (by omega) (by omega) (fun j hj => absurd hj (Nat.not_lt_zero j)) (Nat.le_refl _) (Nat.zero_le _) (fun j hj => absurd hj (Nat.not_lt_zero j))
/-! the reference: an item read -/
theorem x8_rest {p i k w : Nat} {st tk nu : Int32} {wo : Int64} {said : Nat → Int32} {v : Int32} (X : TX tl b len bytes ts text) (hf : 5000 ≤ fu) (hp : p ≤ 200) (hk : k ≤ tl) (hv : ∃ c, c ≤ 3 ∧ f_X8_numbersOf fu v = some (nI c)) (hi : i ≤ 3) (n : Nat) : ∃ r, X8_readItem_L24 fu ts text v (n + 1) (nI k) st tk nu wo (nI p) said (nI i) = some r ∧ r.2.2.2.2.2.2.1 = nI p := by
  obtain ⟨c, c1, c2⟩ := hv
  obtain ⟨nu2, wo2, e, -⟩ := x8_next (st := st) (tk := tk) (nu := nu) (wo := wo) X hf hk
  have hne : ¬ nI p = -1 := by
    rw [show (-1 : Int32) = -nI 1 from rfl, pz_eqm (by omega) (by decide) (by decide)]; exact id
  have hJ : ∃ r, X8_readItem_J80 fu ts (nI k) st tk nu wo (nI p) text said v = some r ∧ r.2.2.2.2.2.2.1 = nI p := by
    rw [X8_readItem_J80, if_neg hne, X8_readItem_J112, e, pz_bind]
    exact ⟨_, rfl, rfl⟩
  rw [X8_readItem_L24, c2, pz_bind]
  by_cases g : c ≤ i
  · rw [if_pos (by rw [pz_le (by omega) (by omega)]; exact g)]
    exact hJ
  · rw [if_neg (by rw [pz_le (by omega) (by omega)]; exact g), if_neg hne]
    exact hJ
theorem x8_itemOn {w : Nat} (X : TX tl b len bytes ts text) (hf : 5000 ≤ fu) (hw : w < 6) : ∀ m i n k st tk nu wo said, m + i = nof w → m < n → k ≤ tl → ∃ r, X8_readItem_L24 fu ts text (nI w) n (nI k) st tk nu wo (-1) said (nI i) = some r ∧ ((iG tl b m k = true ∧ ∃ said2 nu2 wo2, r = (nI w, nI (tE tl b (iE tl b m k)), nI (tP tl b (iE tl b m k)), nI (t8 tl b (iE tl b m k)), nu2, wo2, -1, said2) ∧ IO fu tl b (iE tl b m k) nu2 wo2 ∧ (∀ j, j < m → said2 (i + j) = nI (iV tl b j k)) ∧ (∀ x, x < i → said2 x = said x)) ∨ (iG tl b m k = false ∧ r.2.2.2.2.2.2.1 = nI (iF tl b m k)))
  | _, _, 0, _, _, _, _, _, _, _, h, _ => absurd h (Nat.not_lt_zero _)
  | 0, i, n + 1, k, st, tk, nu, wo, said, h1, h2, h3 => by
    have hn := nof_le (w := w)
    obtain ⟨nu2, wo2, e, -⟩ := x8_next (st := st) (tk := tk) (nu := nu) (wo := wo) X hf h3
    have h8 := t8_K (tl := tl) (b := b) (k := k)
    have hE := tE_rng (b := b) h3
    obtain ⟨nu3, wo3, e3, io⟩ := x8_next (st := nI (tP tl b k)) (tk := nI (t8 tl b k)) (nu := nu2) (wo := wo2) X hf hE.2.2.1
    rw [X8_readItem_L24, x8_numbersOf hw, pz_bind, if_pos (by rw [pz_le (by omega) (by omega)]; omega), X8_readItem_J80, if_pos rfl, e, pz_bind]
    try simp only
    by_cases g : tK tl b k = 2
    · rw [if_pos (by rw [h8.2.2.2.2 g]; rfl), X8_readItem_J109, X8_readItem_J112, e3, pz_bind]
      exact ⟨_, rfl, Or.inl ⟨decide_eq_true g, said, nu3, wo3, rfl, io, fun j hj => absurd hj (Nat.not_lt_zero j), fun x _ => rfl⟩⟩
    · rw [if_neg (by rw [pz_c3, pz_eq (by omega) (by omega)]; exact fun q => g (h8.2.2.2.1 q)), X8_readItem_J109, X8_readItem_J112, e3, pz_bind]
      exact ⟨_, rfl, Or.inr ⟨decide_eq_false g, rfl⟩⟩
  | m + 1, i, n + 1, k, st, tk, nu, wo, said, h1, h2, h3 => by
    have x3 := X.2.2.1
    have hn := nof_le (w := w)
    obtain ⟨nu2, wo2, e, io⟩ := x8_next (st := st) (tk := tk) (nu := nu) (wo := wo) X hf h3
    have h8 := t8_K (tl := tl) (b := b) (k := k)
    have hE := tE_rng (b := b) h3
    have hP := tP_rng (b := b) h3
    rw [X8_readItem_L24, x8_numbersOf hw, pz_bind, if_neg (by rw [pz_le (by omega) (by omega)]; omega), if_pos rfl, e, pz_bind, pz_ck _ (by omega) (by omega), pz_cl (by omega)]
    try simp only
    by_cases g : tK tl b k = 1
    · rw [if_pos (by rw [h8.2.2.1.2 g]; rfl), X8_readItem_J71, nI_1, io.2 g]
      obtain ⟨r, e1, e2⟩ := x8_itemOn X hf hw m (i + 1) n (tE tl b k) (nI (tP tl b k)) (nI (t8 tl b k)) (nI (tV tl b k)) wo2 (upd said i (nI (tV tl b k))) (by omega) (by omega) hE.2.2.1
      refine ⟨r, e1, ?_⟩
      rcases e2 with ⟨f1, said2, nu3, wo3, f2, f3, f4, f5⟩ | ⟨f1, f2⟩
      · refine Or.inl ⟨by rw [iG, decide_eq_true g, f1]; rfl, said2, nu3, wo3, f2, f3, fun j hj => ?_, fun x hx => ?_⟩
        · cases j with
          | zero => rw [Nat.add_zero, f5 _ (by omega), pk_us, iV]
          | succ j =>
            rw [iV, ← f4 j (by omega)]
            exact congrArg said2 (by omega)
        · rw [f5 x (by omega), pk_un (by omega)]
      · exact Or.inr ⟨by rw [iG, f1, Bool.and_false], by rw [iF, if_pos g]; exact f2⟩
    · obtain ⟨n2, rfl⟩ : ∃ n2, n = n2 + 1 := ⟨n - 1, by omega⟩
      rw [if_neg (by rw [pz_c2, pz_eq (by omega) (by omega)]; exact fun q => g (h8.2.2.1.1 q)), X8_readItem_J71, nI_1]
      obtain ⟨r, e1, e2⟩ := x8_rest (p := tP tl b k) (i := i + 1) (w := w) (k := tE tl b k) (st := nI (tP tl b k)) (tk := nI (t8 tl b k)) (nu := nu2) (wo := wo2) (said := upd said i nu2) (v := nI w) X hf (by omega) hE.2.2.1 ⟨_, hn, x8_numbersOf hw⟩ (by omega) n2
      exact ⟨r, e1, Or.inr ⟨by rw [iG, decide_eq_false g]; rfl, by rw [iF, if_neg g]; exact e2⟩⟩
theorem x8_readItem {q : Nat} {nu fl : Int32} {wo : Int64} {said : Nat → Int32} (X : TX tl b len bytes ts text) (hf : 5000 ≤ fu) (hq : q ≤ tl) (io : IO fu tl b q nu wo) : ∃ r, f_X8_readItem fu ts (nI (tE tl b q)) (nI (tP tl b q)) (nI (t8 tl b q)) nu wo fl text said = some r ∧ ((gI tl b q ∧ ∃ said2 nu2 wo2, r = (nI (tV tl b q), nI (tE tl b (zI tl b q)), nI (tP tl b (zI tl b q)), nI (t8 tl b (zI tl b q)), nu2, wo2, -1, said2) ∧ IO fu tl b (zI tl b q) nu2 wo2 ∧ ∀ j, j < nof (tV tl b q) → said2 j = nI (iV tl b j (tE tl b q))) ∨ (¬ gI tl b q ∧ r.2.2.2.2.2.2.1 = nI (fI tl b q))) := by
  have x3 := X.2.2.1
  have hE := tE_rng (b := b) hq
  have hP := tP_rng (b := b) hq
  rw [f_X8_readItem, io.1, pz_bind]
  by_cases g : tK tl b q = 0
  · have hw := tV_word g
    have hn := nof_le (w := tV tl b q)
    rw [if_pos g, if_neg (by rw [show (-1 : Int32) = -nI 1 from rfl, pz_eqm (by omega) (by decide) (by decide)]; exact id), X8_readItem_J19]
    obtain ⟨r, e1, e2⟩ := x8_itemOn X hf hw (nof (tV tl b q)) 0 fu (tE tl b q) (nI (tP tl b q)) (nI (t8 tl b q)) nu wo said (by omega) (by omega) hE.2.2.1
    refine ⟨r, e1, ?_⟩
    rcases e2 with ⟨f1, said2, nu2, wo2, f2, f3, f4, -⟩ | ⟨f1, f2⟩
    · exact Or.inl ⟨⟨g, f1⟩, said2, nu2, wo2, f2, f3, fun j hj => by rw [← f4 j hj, Nat.zero_add]⟩
    · refine Or.inr ⟨fun q2 => ?_, by rw [fI, if_pos g]; exact f2⟩
      have := q2.2
      rw [f1] at this
      exact absurd this (by decide)
  · obtain ⟨n2, hn2⟩ : ∃ n2, fu = n2 + 1 := ⟨fu - 1, by omega⟩
    rw [if_neg g, if_pos rfl, X8_readItem_J19]
    have hv : ∃ c, c ≤ 3 ∧ f_X8_numbersOf fu (-1) = some (nI c) := ⟨3, by omega, by rw [f_X8_numbersOf, X8_numbersOf_J18]; decide +kernel⟩
    obtain ⟨r, e1, e2⟩ := x8_rest (p := tP tl b q) (i := 0) (w := 0) (k := tE tl b q) (st := nI (tP tl b q)) (tk := nI (t8 tl b q)) (nu := nu) (wo := wo) (said := said) (v := -1) X hf (by omega) hE.2.2.1 hv (by omega) n2
    rw [← hn2] at e1
    exact ⟨r, e1, Or.inr ⟨fun q2 => g q2.1, by rw [fI, if_neg g]; exact e2⟩⟩
/-! the reference: the place of the fault, or -1 -/
theorem x8_findOn {M : Nat} (X : TX tl b len bytes ts text) (hf : 5000 ≤ fu) (hg : ∀ j, j < M → gI tl b (qI tl b j)) (hM : qI tl b M ≤ tl) (hq : ∀ j, j ≤ M → qI tl b j ≤ tl) (hend : tK tl b (qI tl b M) = 3 ∨ (tK tl b (qI tl b M) ≠ 3 ∧ ¬ gI tl b (qI tl b M))) : ∀ m i n nu wo fl said, m + i = M → m + 1 < n → IO fu tl b (qI tl b i) nu wo → ∃ r, X8_findFault_L11 fu ts text n (nI (tE tl b (qI tl b i))) (nI (tP tl b (qI tl b i))) (nI (t8 tl b (qI tl b i))) nu wo fl said (-1) = some r ∧ r.1 = if tK tl b (qI tl b M) = 3 then -1 else nI (fI tl b (qI tl b M))
  | _, _, 0, _, _, _, _, _, h, _ => absurd h (Nat.not_lt_zero _)
  | _, _, 1, _, _, _, _, _, h, _ => absurd h (by omega)
  | 0, i, n + 2, nu, wo, fl, said, h1, h2, h3 => by
    obtain rfl : i = M := by omega
    have x3 := X.2.2.1
    have h8 := t8_K (tl := tl) (b := b) (k := qI tl b i)
    rw [X8_findFault_L11]
    rcases hend with g | ⟨g, g2⟩
    · rw [if_pos (by rw [h8.2.1.2 g]; rfl), X8_findFault_J36, if_pos g]
      exact ⟨_, rfl, rfl⟩
    · obtain ⟨r, e1, e2⟩ := x8_readItem (fl := fl) (said := said) X hf hM h3
      have hl := fI_le (b := b) hM
      rw [if_neg (by rw [pz_c0, pz_eq (by omega) (by omega)]; exact fun q => g (h8.2.1.1 q)), if_pos rfl, e1, pz_bind, if_neg g]
      rcases e2 with ⟨f, -⟩ | ⟨-, f⟩
      · exact absurd f g2
      · rw [f, X8_findFault_L11]
        have hne : ¬ nI (fI tl b (qI tl b i)) = -1 := by
          rw [show (-1 : Int32) = -nI 1 from rfl, pz_eqm (by omega) (by decide) (by decide)]; exact id
        by_cases g5 : r.2.2.2.1 = 0
        · rw [if_pos g5, X8_findFault_J36]
          exact ⟨_, rfl, rfl⟩
        · rw [if_neg g5, if_neg hne, X8_findFault_J36]
          exact ⟨_, rfl, rfl⟩
  | m + 1, i, n + 2, nu, wo, fl, said, h1, h2, h3 => by
    have h8 := t8_K (tl := tl) (b := b) (k := qI tl b i)
    have gi := hg i (by omega)
    obtain ⟨r, e1, e2⟩ := x8_readItem (fl := fl) (said := said) X hf (hq i (by omega)) h3
    rw [X8_findFault_L11, if_neg (by
      rw [pz_c0, pz_eq (by omega) (by omega)]
      intro q
      have := h8.2.1.1 q
      rw [gi.1] at this
      omega), if_pos rfl, e1, pz_bind]
    rcases e2 with ⟨-, said2, nu2, wo2, f2, f3, f4⟩ | ⟨f, -⟩
    · subst f2
      exact x8_findOn X hf hg hM hq hend m (i + 1) (n + 1) nu2 wo2 (-1) said2 (by omega) (by omega) f3
    · exact absurd gi f
theorem x8_findFault {M : Nat} {cu st tk nu fl : Int32} {wo : Int64} {said : Nat → Int32} (X : TX tl b len bytes ts text) (hf : 5000 ≤ fu) (hm : M ≤ 100) (hg : ∀ j, j < M → gI tl b (qI tl b j)) (hM : qI tl b M ≤ tl) (hq : ∀ j, j ≤ M → qI tl b j ≤ tl) (hend : tK tl b (qI tl b M) = 3 ∨ (tK tl b (qI tl b M) ≠ 3 ∧ ¬ gI tl b (qI tl b M))) : ∃ r, f_X8_findFault fu ts cu st tk nu wo fl text said = some r ∧ r.1 = if tK tl b (qI tl b M) = 3 then -1 else nI (fI tl b (qI tl b M)) := by
  obtain ⟨nu2, wo2, e, io⟩ := x8_next (st := st) (tk := tk) (nu := nu) (wo := wo) X hf (Nat.zero_le tl)
  rw [f_X8_findFault, show f_X8_next fu ts 0 st tk nu wo text = _ from e, pz_bind]
  exact x8_findOn X hf hg hM hq hend M 0 fu nu2 wo2 fl said (by omega) (by omega) io
theorem qI_le {M : Nat} (hg : ∀ j, j < M → gI tl b (qI tl b j)) : ∀ j, j ≤ M → qI tl b j ≤ tl
  | 0, _ => Nat.zero_le _
  | j + 1, h => (zI_rng (qI_le hg j (by omega)) (hg j (by omega))).2
end
