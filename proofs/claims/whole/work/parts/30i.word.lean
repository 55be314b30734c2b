/-! A WORD LAID BY TRYING ALL PLACES (the reference) -/
def totS (s : Nat → Nat) (h w : Nat) (p : PL) : Nat → Nat
  | 0 => 0
  | i + 1 => if (BX s h w i (12 * p.1 + pcol p i)).1 = 65535 ∨ totS s h w p i = 65535 then 65535 else totS s h w p i + (BX s h w i (12 * p.1 + pcol p i)).1
def TT (s : Nat → Nat) (h w k : Nat) : Nat := totS s h w (plk (s 0) (wl w) k) (wl w)
def BP (s : Nat → Nat) (h w : Nat) : Nat × Nat := best (TT s h w) (PN (s 0) (s 1) (wl w))
def LMok (s : Nat → Nat) (h w : Nat) (le ma : Nat → Int32) (m : Nat) : Prop := ∀ i, i < m → ∀ c, boxB s c = true → le (24 * i + c) = eI (BX s h w i c).1 ∧ ma (24 * i + c) = eI (BX s h w i c).2
section
variable {fu : Nat} {s : Nat → Nat} {st ones : Nat → Int32} {h w : Nat}
theorem boxB_lt (I : Iv s) {c : Nat} (h : boxB s c = true) : c < 22 := by
  obtain ⟨i0, i1, -⟩ := I
  simp only [boxB, decide_eq_true_eq] at h
  omega
theorem pok_col {W H n : Nat} {p : PL} (hn : n ≤ 3) (hp : pok W H n p) {i : Nat} (hi : i < n) : pcol p i + 3 ≤ W ∧ p.1 + 4 ≤ H := by
  obtain ⟨a, b⟩ := hp
  refine ⟨?_, a⟩
  rcases (show n = 1 ∨ n = 2 ∨ n = 3 by omega) with e | e | e
  · subst e
    rw [if_pos rfl] at b
    obtain rfl : i = 0 := by omega
    exact b
  · subst e
    rw [if_neg (by decide), if_pos rfl] at b
    rcases (show i = 0 ∨ i = 1 by omega) with e | e <;> subst e <;> simp only [pcol] <;> simp <;> omega
  · subst e
    rw [if_neg (by decide), if_neg (by decide)] at b
    rcases (show i = 0 ∨ i = 1 ∨ i = 2 by omega) with e | e | e <;> subst e <;> simp only [pcol] <;> simp <;> omega
theorem pok_box (I : Iv s) {n : Nat} {p : PL} (hn : n ≤ 3) (hp : pok (s 0) (s 1) n p) {i : Nat} (hi : i < n) : boxB s (12 * p.1 + pcol p i) = true := by
  have h := pok_col hn hp hi
  obtain ⟨i0, i1, -⟩ := I
  simp only [boxB, decide_eq_true_eq]
  omega
theorem BX_rng (I : Iv s) {c : Nat} (hc : c < 22) {i : Nat} : (BX s h w i c).1 = 65535 ∨ (BX s h w i c).1 ≤ 252 := best_rng (fun k => bxF_rng I hc) 4096
theorem totS_rng (I : Iv s) {p : PL} (hp : pok (s 0) (s 1) (wl w) p) : ∀ i, i ≤ wl w → totS s h w p i = 65535 ∨ totS s h w p i ≤ 252 * i
  | 0, _ => Or.inr (Nat.le_refl 0)
  | i + 1, hi => by
    have hr := wl_rng w
    have ih := totS_rng (h := h) I hp i (by omega)
    have hb := BX_rng (s := s) (h := h) (w := w) (i := i) I (boxB_lt I (pok_box I (n := wl w) (by omega) hp (i := i) (by omega)))
    rw [totS]
    split
    · exact Or.inl rfl
    · right; omega
theorem TT_rng (I : Iv s) {k : Nat} (hk : k < PN (s 0) (s 1) (wl w)) : TT s h w k = 65535 ∨ TT s h w k ≤ 756 := by
  have hr := wl_rng w
  have hp := (pl_at I.1 I.2.1 hr (k := k) (by have := pl_le I.1 I.2.1 hr; omega)).1 hk
  have := totS_rng (h := h) I hp (wl w) (Nat.le_refl _)
  rw [TT]
  omega
theorem bestW_rng {f : Nat → Nat} {B : Nat} : ∀ {n : Nat}, (∀ k, k < n → f k = 65535 ∨ f k ≤ B) → (best f n).1 = 65535 ∨ (best f n).1 ≤ B
  | 0, _ => Or.inl rfl
  | n + 1, hf => by
    rw [best]
    split
    · exact hf n (by omega)
    · exact bestW_rng (fun k hk => hf k (by omega))
theorem x8_makeBoxes {rt le ma : Nat → Int32} (hf : 5000 ≤ fu) (I : Iv s) (R : SR st s) (hO : ∀ k, k < 4096 → ones k = nI (pc k)) (hh : h < 4) (hw : okW s w) : ∃ r, f_X8_makeBoxes fu st ones rt le ma (nI w) (nI h) = some r ∧ LMok s h w r.2.1 r.2.2 (wl w) := by
  have hr := wl_rng w
  have hw6 : w ≤ 666 := hw.2.1
  rw [f_X8_makeBoxes, x8_findReads hf I R hO, pz_bind]
  have hT : ∀ k, k < 4096 → filF (fun k => eI (rd s k)) rt 4096 k = eI (rd s k) := fun k hk => filF_in hk
  generalize filF (fun k => eI (rd s k)) rt 4096 = rt2 at hT
  refine pz_rel (fun n i (a : (Nat → Int32) × (Nat → Int32)) => X8_makeBoxes_L6 fu st ones rt2 (nI w) (nI h) n a.1 a.2 (nI i)) (fun i a => LMok s h w a.1 a.2 i) (wl w) _ (fun n i a hi ha => ?_) (fun n a ha => ?_) fu 0 (le, ma) (by omega) (by omega) (fun i hi => absurd hi (Nat.not_lt_zero i))
  · right
    obtain ⟨b, hb, e⟩ := pz_relC (fun n c (b : (Nat → Int32) × (Nat → Int32)) => X8_makeBoxes_L17 fu (X8_makeBoxes_L6 fu st ones rt2 (nI w) (nI h) n) st ones rt2 (nI w) (nI h) (nI i) n b.1 b.2 (nI c)) (fun c b => LMok s h w b.1 b.2 i ∧ ∀ d, d < c → boxB s d = true → b.1 (24 * i + d) = eI (BX s h w i d).1 ∧ b.2 (24 * i + d) = eI (BX s h w i d).2) 24 (fun b => X8_makeBoxes_L6 fu st ones rt2 (nI w) (nI h) n b.1 b.2 (nI (i + 1))) (fun m c b hc hb => ?_) (fun m b hb => ?_) fu 0 a (by omega) (by omega) ⟨ha, fun d hd => absurd hd (Nat.not_lt_zero d)⟩
    sorry
    sorry
    sorry
  · sorry
end
