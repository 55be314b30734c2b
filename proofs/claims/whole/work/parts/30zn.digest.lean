/-! DIGEST: both fold the same numbers -/
def hS (v : Int64) (x : Int32) : Int64 := (31 : Int64) * v + x.toInt64
def dgF (f : Nat → Int32) : Nat → Int64 → Int64
  | 0, v => v
  | n + 1, v => hS (dgF f n v) (f n)
def gW (s : Nat → Nat) (c : Nat) (v : Int64) : Int64 := dgF (fun h => eI (s (96 + 60 * h + c))) 4 (hS v (eI (s (36 + c))))
def rwF {σ : Type} (g : Nat → σ → σ) (y : Nat) : Nat → σ → σ
  | 0, a => a
  | x + 1, a => g (12 * y + x) (rwF g y x a)
def rsF {σ : Type} (g : Nat → σ → σ) (W : Nat) : Nat → σ → σ
  | 0, a => a
  | y + 1, a => rwF g y W (rsF g W y a)
theorem fo_last {σ : Type} {p : Nat → Bool} {g : Nat → σ → σ} : ∀ m c a, fo p g (m + 1) c a = if p (c + m) = true then g (c + m) (fo p g m c a) else fo p g m c a
  | 0, c, a => rfl
  | m + 1, c, a => by
    rw [fo, fo_last m (c + 1), fo, show c + 1 + m = c + (m + 1) by omega]
theorem fo_add {σ : Type} {p : Nat → Bool} {g : Nat → σ → σ} : ∀ m k c a, fo p g (m + k) c a = fo p g k (c + m) (fo p g m c a)
  | 0, k, c, a => by rw [Nat.zero_add, Nat.add_zero, fo]
  | m + 1, k, c, a => by
    rw [show m + 1 + k = (m + k) + 1 by omega, fo, fo_add m k (c + 1), fo, show c + 1 + m = c + (m + 1) by omega]
theorem fo_row {σ : Type} {s : Nat → Nat} {g : Nat → σ → σ} {y : Nat} (hy : y < s 1) (a : σ) : ∀ m, m ≤ 12 → fo (winB s) g m (12 * y) a = rwF g y (if m ≤ s 0 then m else s 0) a
  | 0, _ => by rw [if_pos (Nat.zero_le _)]; rfl
  | m + 1, h => by
    have e : winB s (12 * y + m) = decide (m < s 0) := by
      unfold winB
      rw [decide_eq_decide]; omega
    rw [fo_last, fo_row hy a m (by omega), e]
    by_cases q : m < s 0
    · rw [decide_eq_true q, if_pos rfl, if_pos (show m ≤ s 0 by omega), if_pos (show m + 1 ≤ s 0 by omega)]; rfl
    · rw [decide_eq_false q, if_neg (by decide), if_neg (show ¬ m + 1 ≤ s 0 by omega)]
      by_cases q2 : m ≤ s 0
      · rw [if_pos q2, show m = s 0 by omega]
      · rw [if_neg q2]
theorem fo_off {σ : Type} {s : Nat → Nat} {g : Nat → σ → σ} {y : Nat} (hy : s 1 ≤ y) (a : σ) : ∀ m, m ≤ 12 → fo (winB s) g m (12 * y) a = a
  | 0, _ => rfl
  | m + 1, h => by
    have e : winB s (12 * y + m) = false := by
      unfold winB
      rw [decide_eq_false]; omega
    rw [fo_last, fo_off hy a m (by omega), e, if_neg (by decide)]
theorem fo_rows {σ : Type} {s : Nat → Nat} (h0 : s 0 ≤ 12) {g : Nat → σ → σ} (a : σ) : ∀ k, fo (winB s) g (12 * k) 0 a = rsF g (s 0) (if k ≤ s 1 then k else s 1) a
  | 0 => by rw [if_pos (Nat.zero_le _)]; rfl
  | k + 1 => by
    rw [show 12 * (k + 1) = 12 * k + 12 by omega, fo_add, Nat.zero_add, fo_rows h0 a k]
    by_cases q : k < s 1
    · rw [fo_row q _ 12 (Nat.le_refl _), if_pos (show k ≤ s 1 by omega), if_pos (show k + 1 ≤ s 1 by omega), rsF]
      by_cases q3 : 12 ≤ s 0
      · rw [if_pos q3, show s 0 = 12 by omega]
      · rw [if_neg q3]
    · rw [fo_off (show s 1 ≤ k by omega) _ 12 (Nat.le_refl _), if_neg (show ¬ k + 1 ≤ s 1 by omega)]
      by_cases q2 : k ≤ s 1
      · rw [if_pos q2, show k = s 1 by omega]
      · rw [if_neg q2]
/-- what both end with -/
def dgAll (s : Nat → Nat) (ts : Int32) : Int64 := dgF (fun k => eI (s (336 + k))) (3 * s 4) (hS (dgF (fun k => eI (s (30 + k))) (s 3) (rsF (gW s) (s 0) (s 1) (dgF (fun k => eI (s (6 + k))) (4 * s 2) (hS (dgF (fun k => eI (s k)) 5 673) ts)))) (eI (s 5)))
section
variable {fu : Nat} {s : Nat → Nat} {st : Nat → Int32}
theorem x8_digest {ts : Int32} (hf : 5000 ≤ fu) (I : Iv s) (R : SR st s) : f_X8_digest fu ts st = some (dgAll s ts) := by
  have hd := SR_hd I R
  obtain ⟨i0, i1, i2, i3, i4, i5, -⟩ := id I
  have d208 : ∀ v, X8_digest_L208 fu ts st fu v 0 = some (dgF (fun k => eI (s (336 + k))) (3 * s 4) v) := fun v => by
    refine pz_up (fun n k => X8_digest_L208 fu ts st n (dgF (fun k => eI (s (336 + k))) k v) (nI k)) (3 * s 4) _ (fun n k hk => ?_) (fun n => ?_) fu 0 (by omega) (by omega)
    · have e := R (336 + k) (by omega)
      rw [X8_digest_L208]
      generalize X8_digest_L208 fu ts st n = rec
      rw [hd.2.2.2.2.1, pz_c3, pk_mul, if_neg (by rw [pz_le (by omega) (by omega)]; omega), pz_c336, nI_add, pz_rd _ _ (by omega) (by omega), e, pz_let, nI_1]
      rfl
    · rw [X8_digest_L208, hd.2.2.2.2.1, pz_c3, pk_mul, if_pos (by rw [pz_le (by omega) (by omega)]; omega)]
  have d159 : ∀ v, X8_digest_L159 fu ts st fu v 0 = some (dgF (fun k => eI (s (336 + k))) (3 * s 4) (hS (dgF (fun k => eI (s (30 + k))) (s 3) v) (eI (s 5)))) := fun v => by
    refine pz_up (fun n k => X8_digest_L159 fu ts st n (dgF (fun k => eI (s (30 + k))) k v) (nI k)) (s 3) _ (fun n k hk => ?_) (fun n => ?_) fu 0 (by omega) (by omega)
    · have e := R (30 + k) (by omega)
      rw [X8_digest_L159]
      generalize X8_digest_L159 fu ts st n = rec
      rw [hd.2.2.2.1, if_neg (by rw [pz_le (by omega) (by omega)]; omega), pz_c30, nI_add, pz_rd _ _ (by omega) (by omega), e, pz_let, nI_1]
      rfl
    · rw [X8_digest_L159, hd.2.2.2.1, if_pos (by rw [pz_le (by omega) (by omega)]; omega), pz_let, R 5 (by omega)]
      exact d208 _
  have d116 : ∀ (rec82 : Int64 → Int32 → Option Int64) c v, c < 60 → X8_digest_L116 fu rec82 ts st (nI c) fu v (nI 0) = rec82 (dgF (fun h => eI (s (96 + 60 * h + c))) 4 v) (nI (c + 1)) := fun rec82 c v hc => by
    refine pz_up (fun n k => X8_digest_L116 fu rec82 ts st (nI c) n (dgF (fun h => eI (s (96 + 60 * h + c))) k v) (nI k)) 4 _ (fun n k hk => ?_) (fun n => ?_) fu 0 (by omega) (by omega)
    · have e := R (96 + 60 * k + c) (by omega)
      rw [X8_digest_L116]
      generalize X8_digest_L116 fu rec82 ts st (nI c) n = rec
      rw [if_neg (by rw [pz_c4, pz_le (by decide) (by omega)]; omega), pz_c60, pk_mul, pz_c96, nI_add, nI_add, pz_rd _ _ (by omega) (by omega), e, pz_let, nI_1]
      rfl
    · rw [X8_digest_L116, if_pos (by decide +kernel), X8_digest_J151, nI_1]
  have d82 : ∀ v, X8_digest_L82 fu ts st fu v 0 = X8_digest_L159 fu ts st fu (fo (winB s) (gW s) 60 0 v) 0 := fun v => by
    refine pz_fo (fun n c v => X8_digest_L82 fu ts st n v (nI c)) (winB s) 60 (gW s) (fun v => X8_digest_L159 fu ts st fu v 0) (fun n c v hc => ?_) (fun n v => ?_) 60 0 fu v (by omega) (by omega)
    · have e := R (36 + c) (by omega)
      have ed := d116 (X8_digest_L82 fu ts st n) c (hS v (eI (s (36 + c)))) hc
      try simp only
      rw [X8_digest_L82, if_neg (by rw [pz_c60, pz_le (by decide) (by omega)]; omega), x8_isWindow I R, vN_n (by omega), pz_bind]
      cases hw : winB s c
      · rw [if_pos b_f, X8_digest_J151, nI_1, if_neg (by decide)]
      · rw [if_neg b_t, pz_c36, nI_add, pz_rd _ _ (by omega) (by omega), e, pz_let, if_pos rfl]
        exact ed
    · try simp only
      rw [X8_digest_L82, if_pos (by decide +kernel)]
  have d45 : ∀ v, X8_digest_L45 fu ts st fu v 0 = X8_digest_L82 fu ts st fu (dgF (fun k => eI (s (6 + k))) (4 * s 2) v) 0 := fun v => by
    refine pz_up (fun n k => X8_digest_L45 fu ts st n (dgF (fun k => eI (s (6 + k))) k v) (nI k)) (4 * s 2) _ (fun n k hk => ?_) (fun n => ?_) fu 0 (by omega) (by omega)
    · have e := R (6 + k) (by omega)
      rw [X8_digest_L45]
      generalize X8_digest_L45 fu ts st n = rec
      rw [hd.2.2.1, pz_c4, pk_mul, if_neg (by rw [pz_le (by omega) (by omega)]; omega), pz_c6, nI_add, pz_rd _ _ (by omega) (by omega), e, pz_let, nI_1]
      rfl
    · rw [X8_digest_L45, hd.2.2.1, pz_c4, pk_mul, if_pos (by rw [pz_le (by omega) (by omega)]; omega)]
  rw [f_X8_digest]
  refine pz_up (fun n k => X8_digest_L6 fu ts st n (dgF (fun k => eI (s k)) k 673) (nI k)) 5 _ (fun n k hk => ?_) (fun n => ?_) fu 0 (by omega) (by omega)
  · have e := R k (by omega)
    rw [X8_digest_L6]
    generalize X8_digest_L6 fu ts st n = rec
    rw [if_neg (by rw [pz_c5, pz_le (by decide) (by omega)]; omega), pz_rd _ _ (by omega) (by omega), e, pz_let, nI_1]
    rfl
  · have er := fo_rows (s := s) i0.2 (g := gW s) (dgF (fun k => eI (s (6 + k))) (4 * s 2) (hS (dgF (fun k => eI (s k)) 5 673) ts)) 5
    have e5 : (if 5 ≤ s 1 then 5 else s 1) = s 1 := by split <;> omega
    rw [e5] at er
    rw [X8_digest_L6, if_pos (by decide +kernel), pz_let]
    refine (d45 _).trans ((d82 _).trans ((d159 _).trans ?_))
    rw [dgAll, ← er]
    rfl
end
