/-! UNLIKE: the reference's search, evaluated for each pair of numbers -/
def okU (d : Nat) : List Nat → Nat → Bool
  | [], _ => true
  | y :: l, x => okU d l x && decide (d ≤ pc (x ^^^ y))
def skU (d : Nat) (l : List Nat) : Nat → Nat → Nat
  | 0, x => x
  | m + 1, x => if okU d l x = true then x else skU d l m (x + 1)
def popU (b : Nat) (F : List Nat → Nat → Option Nat) : List Nat → Option Nat
  | [] => some b
  | y :: l => F l (y + 1)
def stU (d N : Nat) : Nat → List Nat → Nat → Nat → Option Nat
  | 0, _, _, _ => none
  | n + 1, l, b, x => if N ≤ skU d l (N - x) x ∨ l.length + (if d ≤ 1 then N - skU d l (N - x) x else (N - skU d l (N - x) x + 1) / 2) ≤ b then popU b (fun l2 y => stU d N n l2 b y) l else stU d N n (skU d l (N - x) x :: l) (if l.length + 1 ≤ b then b else l.length + 1) (skU d l (N - x) x + 1)
def muU (k d : Nat) : Nat := if d = 1 then 1 <<< k else if d = 2 then 1 <<< (k - 1) else if k = 5 then (if d = 3 then 4 else 2) else 2
theorem stU_all : ((List.range 6).all (fun k => (List.range 6).all (fun d => decide (k = 0 ∨ d = 0 ∨ k < d) || decide (stU d (1 <<< k) 1200 [] 0 0 = some (muU k d))))) = true := by decide +kernel
theorem stU_at {k d : Nat} (hk : 1 ≤ k ∧ k ≤ 5) (hd : 1 ≤ d ∧ d ≤ k) : stU d (1 <<< k) 1200 [] 0 0 = some (muU k d) := by
  have h := List.all_eq_true.mp (List.all_eq_true.mp stU_all k (List.mem_range.mpr (by omega))) d (List.mem_range.mpr (by omega))
  rw [decide_eq_false (by omega), Bool.false_or] at h
  exact of_decide_eq_true h
def cA (l : List Nat) (j : Nat) : Nat := l.getD (l.length - 1 - j) 0
theorem cA_top {y : Nat} {l : List Nat} : cA (y :: l) l.length = y := by
  unfold cA
  rw [List.length_cons, show l.length + 1 - 1 - l.length = 0 by omega]
  rfl
theorem cA_low {y j : Nat} {l : List Nat} (h : j < l.length) : cA (y :: l) j = cA l j := by
  unfold cA
  rw [List.length_cons, show l.length + 1 - 1 - j = (l.length - 1 - j) + 1 by omega]
  rfl
def okA (d : Nat) (c : Nat → Nat) (x : Nat) : Nat → Bool
  | 0 => true
  | j + 1 => okA d c x j && decide (d ≤ pc (x ^^^ c j))
theorem okA_cong {d x : Nat} {c e : Nat → Nat} : ∀ {m : Nat}, (∀ j, j < m → c j = e j) → okA d c x m = okA d e x m
  | 0, _ => rfl
  | m + 1, h => by rw [okA, okA, okA_cong (fun j hj => h j (by omega)), h m (by omega)]
theorem okA_U {d x : Nat} : ∀ l : List Nat, okA d (cA l) x l.length = okU d l x
  | [] => rfl
  | y :: l => by
    rw [List.length_cons, okA, okU, cA_top, okA_cong (e := cA l) (fun j hj => cA_low hj), okA_U l]
def gU (N : Nat) : List Nat → Prop
  | [] => True
  | y :: l => l.length ≤ y ∧ y < N ∧ gU N l
theorem gU_at {N : Nat} : ∀ {l : List Nat}, gU N l → ∀ j, j < l.length → cA l j < N
  | [], _, j, h => absurd h (Nat.not_lt_zero j)
  | y :: l, g, j, h => by
    rw [List.length_cons] at h
    rcases Nat.lt_or_ge j l.length with q | q
    · rw [cA_low q]; exact gU_at g.2.2 j q
    · rw [show j = l.length by omega, cA_top]; exact g.2.1
theorem skU_rng {d : Nat} {l : List Nat} : ∀ m x, x ≤ skU d l m x ∧ skU d l m x ≤ x + m
  | 0, x => ⟨Nat.le_refl _, Nat.le_refl _⟩
  | m + 1, x => by
    rw [skU]
    split
    · omega
    · have := skU_rng (d := d) (l := l) m (x + 1)
      omega
section
variable {fu : Nat} {rf ones : Nat → Int32}
def CLs (ch : Nat → Int32) (l : List Nat) : Prop := ∀ j, j < l.length → ch j = nI (cA l j)
theorem x8_isUnlike {ch : Nat → Int32} {l : List Nat} {d N x : Nat} (hf : 5000 ≤ fu) (hO : ∀ k, k < 4096 → ones k = nI (pc k)) (hd : d ≤ 5) (hN : N ≤ 32) (hC : CLs ch l) (hg : gU N l) (hl : l.length ≤ 32) (hx : x < 32) : f_X8_isUnlike fu ones ch (nI x) (nI l.length) (nI d) = some (bI (okU d l x)) := by
  rw [f_X8_isUnlike, ← okA_U]
  refine pz_up (fun n j => X8_isUnlike_L6 fu ones ch (nI x) (nI l.length) (nI d) n (bI (okA d (cA l) x j)) (nI j)) l.length _ (fun n j hj => ?_) (fun n => ?_) fu 0 (by omega) (by omega)
  · have hc := hC j hj
    have hlt := gU_at hg j hj
    have hxo : x ^^^ cA l j < 2 ^ 5 := Nat.xor_lt_two_pow (by omega) (by omega)
    have ho := hO (x ^^^ cA l j) (by omega)
    have hp := pc_le (x ^^^ cA l j)
    rw [X8_isUnlike_L6]
    generalize X8_isUnlike_L6 fu ones ch (nI x) (nI l.length) (nI d) n = rec
    rw [if_neg (by rw [pz_le (by omega) (by omega)]; omega), okA]
    cases okA d (cA l) x j
    · rw [if_pos b_f, X8_isUnlike_J39, X8_isUnlike_J40, nI_1]; rfl
    · rw [if_neg b_t, pz_rd _ _ (by omega) (by omega), hc, pz_xor, pz_rd _ _ (by omega) (by omega), ho, Bool.true_and]
      by_cases g : d ≤ pc (x ^^^ cA l j)
      · rw [if_neg (by rw [pz_lt (by omega) (by omega)]; omega), X8_isUnlike_J40, nI_1, decide_eq_true g]; rfl
      · rw [if_pos (by rw [pz_lt (by omega) (by omega)]; omega), X8_isUnlike_J39, X8_isUnlike_J40, nI_1, decide_eq_false g]; rfl
  · rw [X8_isUnlike_L6, if_pos (by rw [pz_le (by omega) (by omega)]; omega), pz_zbb, pz_gd]
theorem un_skip {rec41 : (Nat → Int32) → Int32 → Int32 → Int32 → Int32 → Option (Int32 × (Nat → Int32) × (Nat → Int32))} {ch : Nat → Int32} {v5 v7 : Int32} {l : List Nat} {d N : Nat} (hf : 5000 ≤ fu) (hO : ∀ k, k < 4096 → ones k = nI (pc k)) (hd : d ≤ 5) (hN : N ≤ 32) (hC : CLs ch l) (hg : gU N l) (hl : l.length ≤ 32) : ∀ m x f, m + x = N → m < f → X8_unlike_L46 fu rec41 rf ones ch (nI d) (nI N) (nI l.length) v5 v7 f (nI x) = X8_unlike_J70 fu rec41 rf ones ch (nI d) (nI N) (nI l.length) v5 (nI (skU d l m x)) v7
  | _, _, 0, _, h => absurd h (Nat.not_lt_zero _)
  | 0, x, f + 1, h1, _ => by
    rw [X8_unlike_L46, if_pos (by rw [pz_le (by omega) (by omega)]; omega), skU]
  | m + 1, x, f + 1, h1, h2 => by
    have ih := un_skip (rec41 := rec41) (v5 := v5) (v7 := v7) hf hO hd hN hC hg hl m (x + 1) f (by omega) (by omega)
    rw [X8_unlike_L46]
    rw [if_neg (by rw [pz_le (by omega) (by omega)]; omega), x8_isUnlike hf hO hd hN hC hg hl (by omega), pz_bind, skU]
    cases okU d l x
    · rw [if_pos b_f, if_neg (by decide), nI_1]
      exact ih
    · rw [if_neg b_t, if_pos rfl]
theorem un_sim {d N r : Nat} (hf : 5000 ≤ fu) (hO : ∀ k, k < 4096 → ones k = nI (pc k)) (hd : d ≤ 5) (hN : N ≤ 32) : ∀ n l b x f ch, stU d N n l b x = some r → n < f → CLs ch l → gU N l → l.length ≤ x → x ≤ N → b ≤ 32 → ∃ ch2, X8_unlike_L41 fu rf ones (nI d) (nI N) f ch (nI l.length) (nI b) (nI x) (nI 1) = some (nI r, rf, ch2)
  | 0, l, b, x, f, ch, h, _, _, _, _, _, _ => by cases h
  | n + 1, l, b, x, 0, ch, _, h, _, _, _, _, _ => absurd h (Nat.not_lt_zero _)
  | n + 1, l, b, x, f + 1, ch, h, hnf, hC, hg, hlx, hx, hb => by
    have hr := skU_rng (d := d) (l := l) (N - x) x
    have es := un_skip (rf := rf) (rec41 := X8_unlike_L41 fu rf ones (nI d) (nI N) f) (ch := ch) (v5 := nI b) (v7 := nI 1) hf hO hd hN hC hg (by omega) (N - x) x fu (by omega) (by omega)
    rw [stU] at h
    rw [X8_unlike_L41, if_neg (by decide), es]
    generalize skU d l (N - x) x = y at *
    have pop : popU b (fun l2 y => stU d N n l2 b y) l = some r → ∃ ch2, X8_unlike_J142 fu (X8_unlike_L41 fu rf ones (nI d) (nI N) f) rf ones ch (nI d) (nI N) (nI l.length) (nI b) = some (nI r, rf, ch2) := by
      intro hm
      rw [X8_unlike_J142]
      cases l with
      | nil =>
        cases hm
        obtain ⟨f2, rfl⟩ : ∃ f2, f = f2 + 1 := ⟨f - 1, by omega⟩
        rw [if_pos (by decide), X8_unlike_J155, if_pos (by decide), X8_unlike_J175, X8_unlike_L41, if_pos (by decide)]
        exact ⟨_, rfl⟩
      | cons z l2 =>
        rw [List.length_cons] at *
        have hz := hC l2.length (by rw [List.length_cons]; omega)
        rw [cA_top] at hz
        have ih := un_sim (r := r) hf hO hd hN n l2 b (z + 1) f ch hm (by omega) (fun j hj => by
          rw [hC j (by rw [List.length_cons]; omega), cA_low hj]) hg.2.2 (by have := hg.1; omega) (by have := hg.2.1; omega) hb
        have e1 : nI (l2.length + 1) + -1 = nI l2.length := by rw [pz_c1, pz_neg]
        rw [e1, if_neg (nI_pos (by omega)), X8_unlike_J155, if_neg (by decide), pz_rd _ _ (by omega) (by omega), hz, X8_unlike_J175, nI_1]
        exact ih
    have hcap : X8_unlike_J70 fu (X8_unlike_L41 fu rf ones (nI d) (nI N) f) rf ones ch (nI d) (nI N) (nI l.length) (nI b) (nI y) (nI 1) = X8_unlike_J90 fu (X8_unlike_L41 fu rf ones (nI d) (nI N) f) rf ones ch (nI d) (nI N) (nI l.length) (nI b) (nI y) (nI 1) (nI (if d ≤ 1 then N - y else (N - y + 1) / 2)) := by
      rw [X8_unlike_J70]
      by_cases g : d ≤ 1
      · rw [if_pos (by rw [pz_c1, pz_le (by omega) (by omega)]; exact g), if_pos g, pk_sub (by omega)]
      · rw [if_neg (by rw [pz_c1, pz_le (by omega) (by omega)]; exact g), if_neg g, pk_sub (by omega), nI_1, pz_c2, pk_div (by omega) (by omega) (by omega)]
    rw [hcap, X8_unlike_J90]
    have hcl : (if d ≤ 1 then N - y else (N - y + 1) / 2) ≤ 32 := by split <;> omega
    generalize (if d ≤ 1 then N - y else (N - y + 1) / 2) = cap at *
    by_cases g1 : N ≤ y
    · rw [if_pos (by rw [pz_le (by omega) (by omega)]; exact g1)]
      rw [if_pos (Or.inl g1)] at h
      exact pop h
    · rw [if_neg (by rw [pz_le (by omega) (by omega)]; exact g1), nI_add]
      by_cases g2 : l.length + cap ≤ b
      · rw [if_pos (by rw [pz_le (by omega) (by omega)]; exact g2)]
        rw [if_pos (Or.inr g2)] at h
        exact pop h
      · rw [if_neg (by rw [pz_le (by omega) (by omega)]; exact g2), pz_ck _ (by omega) (by omega), pz_cl (by omega), nI_1]
        rw [if_neg (by omega)] at h
        have hC2 : CLs (upd ch l.length (nI y)) (y :: l) := by
          intro j hj
          rw [List.length_cons] at hj
          rcases Nat.lt_or_ge j l.length with q | q
          · rw [pk_un (by omega), hC j q, cA_low q]
          · rw [show j = l.length by omega, pk_us, cA_top]
        by_cases g3 : l.length + 1 ≤ b
        · rw [if_pos g3] at h
          have ih := un_sim (r := r) hf hO hd hN n (y :: l) b (y + 1) f (upd ch l.length (nI y)) h (by omega) hC2 ⟨by omega, by omega, hg⟩ (by rw [List.length_cons]; omega) (by omega) hb
          rw [List.length_cons] at ih
          rw [if_pos (by rw [pz_le (by omega) (by omega)]; exact g3), X8_unlike_J137, nI_1]
          exact ih
        · rw [if_neg g3] at h
          have ih := un_sim (r := r) hf hO hd hN n (y :: l) (l.length + 1) (y + 1) f (upd ch l.length (nI y)) h (by omega) hC2 ⟨by omega, by omega, hg⟩ (by rw [List.length_cons]; omega) (by omega) (by omega)
          rw [List.length_cons] at ih
          rw [if_neg (by rw [pz_le (by omega) (by omega)]; exact g3), X8_unlike_J137, nI_1]
          exact ih
end
