/-! CAN, BARS: both answer alike -/
def cnB (s : Nat → Nat) (h n k : Nat) : Bool := okB s k && (decide (wl k = n) && said s h k 63)
def cnF (s : Nat → Nat) (h n : Nat) : Nat → Nat
  | 0 => 0
  | k + 1 => cnF s h n k + (cnB s h n k).toNat
theorem cnF_le (s : Nat → Nat) (h n : Nat) : ∀ k, cnF s h n k ≤ k
  | 0 => Nat.le_refl 0
  | k + 1 => by
    have := cnF_le s h n k
    have := Bool.toNat_le (cnB s h n k)
    rw [cnF]; omega
theorem cnF_gap {s : Nat → Nat} {h n a : Nat} : ∀ j, (∀ m, a ≤ m → m < a + j → cnB s h n m = false) → cnF s h n (a + j) = cnF s h n a
  | 0, _ => rfl
  | j + 1, g => by
    rw [← Nat.add_assoc, cnF, g (a + j) (by omega) (by omega), cnF_gap j (fun m h1 h2 => g m h1 (by omega))]
    rfl
theorem cnB_not {s : Nat → Nat} {h n m : Nat} (hm : ¬ okW s m ∨ wl m ≠ n) : cnB s h n m = false := by
  unfold cnB
  rcases hm with q | q
  · have : okB s m = false := by
      rw [← Bool.not_eq_true]
      exact fun g => q (okB_iff.mp g)
    rw [this]; rfl
  · rw [decide_eq_false q]; simp
section
variable {fu : Nat} {s : Nat → Nat}
theorem x7_may {kinds painOf payFor refused le : Nat → Int32} {owned litIn : Nat → Int64} {h w bits : Nat} (hf : 5000 ≤ fu) (I : Iv s) (T : TR s kinds painOf payFor refused owned) (L : LR s litIn) (hh : h < 4) (hl : LW w bits le) : f_X5_changeable fu (nI (s 2)) kinds refused owned litIn (nI h) (nI bits) 63 = some (lN (MAY s h w 63)) :=
  x5_changeable (fu := fu) (w := w) (set := 63) (bits := bits) hf I T L hh (by decide) hl.1 hl.2.1
theorem x7_said {shapes le : Nat → Int32} {litIn : Nat → Int64} {h w bits : Nat} (hf : 5000 ≤ fu) (I : Iv s) (L : LR s litIn) (S : HR s shapes) (hh : h < 4) (hw : okW s w) (hl : LW w bits le) : f_X5_canBeSaid fu (nI (s 0)) (nI (s 1)) (nI (s 5)) (nI (s 3)) litIn shapes (nI (wl w)) le (nI h) (lN (MAY s h w 63)) = some (bI (said s h w 63)) :=
  x5_canBeSaid (fu := fu) (set := 63) hf I L S hh hw hl.2.2
theorem x7_can {wb wn wf l0 b0 : Int32} {kinds painOf payFor refused shapes le0 : Nat → Int32} {owned litIn : Nat → Int64} {h n : Nat} (hf : 5000 ≤ fu) (I : Iv s) (T : TR s kinds painOf payFor refused owned) (L : LR s litIn) (S : HR s shapes) (hh : h < 4) (hn : n < 10) : ∃ r, X7_can_L29 fu wb wn wf (nI (s 0)) (nI (s 1)) (nI (s 5)) (nI (s 2)) (nI (s 3)) kinds refused owned litIn shapes (nI n) (nI h) fu l0 b0 le0 0 1 = some r ∧ r.1 = nI (cnF s h n 67) ∧ r.2.1 = wb ∧ r.2.2.1 = wn ∧ r.2.2.2.1 = wf := by
  refine pz_rel (fun m k (a : Int32 × Int32 × (Nat → Int32) × Int32) => X7_can_L29 fu wb wn wf (nI (s 0)) (nI (s 1)) (nI (s 5)) (nI (s 2)) (nI (s 3)) kinds refused owned litIn shapes (nI n) (nI h) m a.1 a.2.1 a.2.2.1 a.2.2.2 (nI k)) (fun k a => a.2.2.2 = nI (cnF s h n k)) 67 _ (fun m k a hk ha => ?_) (fun m a ha => ?_) fu 1 (l0, b0, le0, 0) (by omega) (by omega) ?_
  · right
    obtain ⟨a1, a2, a3, a4⟩ := a
    simp only at ha
    subst ha
    obtain ⟨r, e, g1, g2⟩ := x6_spell (fu := fu) (l0 := a1) (b0 := a2) (le := a3) hf I.2.2.2.1 (nI k)
    rw [vN_n (by omega)] at g1 g2
    have hc66 : ¬ (66 : Int32) < nI k := by rw [pz_c66, pz_lt (by decide) (by omega)]; omega
    refine ⟨(r.2.1, r.2.2.1, r.2.2.2, nI (cnF s h n (k + 1))), rfl, ?_⟩
    try simp only
    rw [X7_can_L29]
    generalize X7_can_L29 fu wb wn wf (nI (s 0)) (nI (s 1)) (nI (s 5)) (nI (s 2)) (nI (s 3)) kinds refused owned litIn shapes (nI n) (nI h) m = rec
    rw [if_neg hc66, e, pz_bind, g1, cnF, cnB]
    cases hok : okB s k
    · rw [if_pos b_f, X7_can_J104, nI_1]
      simp
    · obtain ⟨g3, bits, g4, g5⟩ := g2 hok
      have hr := wl_rng k
      rw [if_neg b_t, g3]
      by_cases hwl : wl k = n
      · have e2 := x7_may (fu := fu) hf I T L hh g5
        have e3 := x7_said (fu := fu) hf I L S hh (okB_iff.mp hok) g5
        rw [if_pos (by rw [hwl]), g4, e2, pz_bind, e3, pz_bind, decide_eq_true hwl]
        cases hsd : said s h k 63
        · rw [if_pos b_f, X7_can_J104, nI_1]
          simp
        · rw [if_neg b_t, X7_can_J104, nI_1, nI_1]
          simp
      · rw [if_neg (by rw [pz_eq (by omega) (by omega)]; exact hwl), decide_eq_false hwl, X7_can_J104, nI_1]
        simp
  · obtain ⟨a1, a2, a3, a4⟩ := a
    simp only at ha
    subst ha
    try simp only
    rw [X7_can_L29]
    generalize X7_can_L29 fu wb wn wf (nI (s 0)) (nI (s 1)) (nI (s 5)) (nI (s 2)) (nI (s 3)) kinds refused owned litIn shapes (nI n) (nI h) m = rec
    rw [if_pos (by decide +kernel)]
    exact ⟨_, rfl, rfl, rfl, rfl, rfl⟩
  · show (0 : Int32) = nI (cnF s h n 1)
    rw [cnF, cnF, cnB_not (Or.inl (fun q => absurd q.1 (by decide)))]
    rfl
abbrev C8 : Type := Int32 × Int32 × Int32 × (Nat → Int32) × (Nat → Int32) × (Nat → Int32) × (Nat → Int32) × (Nat → Int32) × Int32
theorem ca_step {st ones rf : Nat → Int32} {h n w m : Nat} {rec28 rec42 : Int32 → Int32 → Int32 → (Nat → Int32) → (Nat → Int32) → (Nat → Int32) → (Nat → Int32) → (Nat → Int32) → Int32 → Int32 → Option (Int32 × Int32 × Int32 × Int32 × (Nat → Int32) × (Nat → Int32) × (Nat → Int32) × (Nat → Int32) × (Nat → Int32) × (Nat → Int32))} {v4 v5 : Int32} (a : C8) (hf : 5000 ≤ fu) (I : Iv s) (R : SR st s) (hO : ∀ k, k < 4096 → ones k = nI (pc k)) (hh : h < 4) (hw : okW s w) : ∃ b : C8, b.2.2.2.2.2.2.2.2 = nI (m + (said s h w 63).toNat) ∧ X8_can_J81 fu rec28 rec42 a.1 a.2.1 a.2.2.1 st rf ones a.2.2.2.1 a.2.2.2.2.1 a.2.2.2.2.2.1 a.2.2.2.2.2.2.1 a.2.2.2.2.2.2.2.1 (nI n) (nI h) (nI m) v4 v5 (nI w) = rec42 b.1 b.2.1 b.2.2.1 b.2.2.2.1 b.2.2.2.2.1 b.2.2.2.2.2.1 b.2.2.2.2.2.2.1 b.2.2.2.2.2.2.2.1 b.2.2.2.2.2.2.2.2 (v5 + 1) := by
  obtain ⟨r, e, g1, -⟩ := x8_findWord (fu := fu) (l0 := a.1) (fp0 := a.2.1) (fl0 := a.2.2.1) (rt := a.2.2.2.1) (le := a.2.2.2.2.1) (ma := a.2.2.2.2.2.1) (co := a.2.2.2.2.2.2.1) (fc := a.2.2.2.2.2.2.2.1) hf I R hO hh hw
  have hBr : (BP s h w).1 = 65535 ∨ (BP s h w).1 ≤ 756 := bestW_rng (fun j hj => TT_rng I hj)
  refine ⟨(r.1, r.2.1, r.2.2.1, r.2.2.2.1, r.2.2.2.2.1, r.2.2.2.2.2.1, r.2.2.2.2.2.2.1, r.2.2.2.2.2.2.2, nI (m + (said s h w 63).toNat)), rfl, ?_⟩
  rw [X8_can_J81, e, pz_bind, said_BP I hh hw]
  rcases hBr with hB | hB
  · rw [if_pos (by rw [g1, hB]; rfl), X8_can_J99, hB]
    simp only [ne_eq, not_true_eq_false, decide_false, Bool.toNat_false, Nat.add_zero]
    rw [pz_c0, nI_add]
    simp
  · have nn : ¬ r.2.1 = -1 := by
      rw [g1, eI_of (by omega), pz_c1, pz_eqm (by omega) (by decide) (by decide)]; exact id
    rw [if_neg nn, X8_can_J99, decide_eq_true (show (BP s h w).1 ≠ 65535 by omega)]
    simp only [Bool.toNat_true]
    rw [nI_1]
end
