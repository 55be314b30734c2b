/-! WHICH WORDS CAN BE SAID -/
def FT (s : Nat → Nat) (h w set j c : Nat) : Bool := decide (rd s (s (30 + j) ^^^ ((s (30 + j) ^^^ shL s h c) &&& muS s h w set c)) = j)
def fcF (F : Nat → Bool) (W : Nat) : Nat → Nat → Nat
  | 0, _ => 65535
  | n + 1, x => if W < x + 3 then 65535 else if F x = true then x else fcF F W n (x + 1)
def fc (F : Nat → Bool) (W x : Nat) : Nat := fcF F W 13 x
theorem fcF_q {F : Nat → Bool} {W : Nat} : ∀ n x, W < x + n + 3 → (fcF F W n x = 65535 ∧ ∀ y, x ≤ y → y + 3 ≤ W → F y = false) ∨ (x ≤ fcF F W n x ∧ fcF F W n x + 3 ≤ W ∧ F (fcF F W n x) = true ∧ ∀ y, x ≤ y → y < fcF F W n x → F y = false)
  | 0, x, h => Or.inl ⟨rfl, fun y h1 h2 => by omega⟩
  | n + 1, x, h => by
    have ih := fcF_q (F := F) (W := W) n (x + 1) (by omega)
    rw [fcF]
    by_cases h1 : W < x + 3
    · rw [if_pos h1]
      exact Or.inl ⟨rfl, fun y g1 g2 => by omega⟩
    · rw [if_neg h1]
      by_cases h2 : F x = true
      · rw [if_pos h2]
        exact Or.inr ⟨Nat.le_refl _, by omega, h2, fun y g1 g2 => by omega⟩
      · rw [if_neg h2]
        rw [Bool.not_eq_true] at h2
        rcases ih with ⟨a, b⟩ | ⟨a, b, c, d⟩
        · refine Or.inl ⟨a, fun y g1 g2 => ?_⟩
          rcases Nat.lt_or_ge x y with q | q
          · exact b y q g2
          · obtain rfl : y = x := by omega
            exact h2
        · refine Or.inr ⟨by omega, b, c, fun y g1 g2 => ?_⟩
          rcases Nat.lt_or_ge x y with q | q
          · exact d y q g2
          · obtain rfl : y = x := by omega
            exact h2
theorem fc_q {F : Nat → Bool} {W x : Nat} (hW : W ≤ 12) : (fc F W x = 65535 ∧ ∀ y, x ≤ y → y + 3 ≤ W → F y = false) ∨ (x ≤ fc F W x ∧ fc F W x + 3 ≤ W ∧ F (fc F W x) = true ∧ ∀ y, x ≤ y → y < fc F W x → F y = false) := fcF_q 13 x (by omega)
def grA (F : Nat → Nat → Bool) (W : Nat) : Nat → Nat → Nat → Bool
  | 0, _, _ => true
  | r + 1, i, x => if fc (F i) W x = 65535 then false else grA F W r (i + 1) (fc (F i) W x + 4)
def exC (F : Nat → Nat → Bool) (W : Nat) : Nat → Nat → Nat → Prop
  | 0, _, _ => True
  | r + 1, i, x => ∃ y, x ≤ y ∧ y + 3 ≤ W ∧ F i y = true ∧ exC F W r (i + 1) (y + 4)
theorem exC_mono {F : Nat → Nat → Bool} {W : Nat} : ∀ r i a b, exC F W r i a → b ≤ a → exC F W r i b
  | 0, _, _, _, _, _ => trivial
  | r + 1, i, a, b, ⟨y, h1, h2, h3, h4⟩, hb => ⟨y, by omega, h2, h3, h4⟩
theorem grA_iff {F : Nat → Nat → Bool} {W : Nat} (hW : W ≤ 12) : ∀ r i x, grA F W r i x = true ↔ exC F W r i x
  | 0, _, _ => ⟨fun _ => trivial, fun _ => rfl⟩
  | r + 1, i, x => by
    have q := fc_q (F := F i) (x := x) hW
    rw [grA, exC]
    rcases q with ⟨a, b⟩ | ⟨a, b, c, d⟩
    · rw [if_pos a]
      constructor
      · intro g; cases g
      · rintro ⟨y, h1, h2, h3, -⟩
        rw [b y h1 h2] at h3
        cases h3
    · rw [if_neg (by omega), grA_iff hW r (i + 1) _]
      constructor
      · intro g
        exact ⟨_, a, b, c, g⟩
      · rintro ⟨y, h1, h2, h3, h4⟩
        refine exC_mono r (i + 1) _ _ h4 ?_
        rcases Nat.lt_or_ge y (fc (F i) W x) with g | g
        · rw [d y h1 g] at h3; cases h3
        · omega
theorem exC_place {F : Nat → Nat → Nat → Bool} {W H n : Nat} (hW : 3 ≤ W ∧ W ≤ 12) (hH : 4 ≤ H ∧ H ≤ 5) (hn : 1 ≤ n ∧ n ≤ 3) : (∃ y, y + 4 ≤ H ∧ exC (F y) W n 0 0) ↔ ∃ k, k < PN W H n ∧ ∀ i, i < n → F (plk W n k).1 i (pcol (plk W n k) i) = true := by
  have hN := pl_le hW hH hn
  constructor
  · rintro ⟨y, hy, he⟩
    rcases (show n = 1 ∨ n = 2 ∨ n = 3 by omega) with e | e | e
    · subst e
      obtain ⟨a, a1, a2, a3, -⟩ := he
      obtain ⟨k, h1, h2⟩ := pl_in (p := (y, a, 4, 8)) hW hH hn ⟨hy, by rw [if_pos rfl]; exact a2⟩ (fun _ => rfl) (fun _ => rfl)
      refine ⟨k, h1, fun i hi => ?_⟩
      rw [h2]
      obtain rfl : i = 0 := by omega
      exact a3
    · subst e
      obtain ⟨a, a1, a2, a3, b, b1, b2, b3, -⟩ := he
      obtain ⟨k, h1, h2⟩ := pl_in (p := (y, a, b, 8)) hW hH hn ⟨hy, by rw [if_neg (by decide), if_pos rfl]; exact ⟨b1, b2⟩⟩ (fun q => absurd q (by decide)) (fun _ => rfl)
      refine ⟨k, h1, fun i hi => ?_⟩
      rw [h2]
      rcases (show i = 0 ∨ i = 1 by omega) with e | e <;> subst e
      · exact a3
      · exact b3
    · subst e
      obtain ⟨a, a1, a2, a3, b, b1, b2, b3, c, c1, c2, c3, -⟩ := he
      obtain ⟨k, h1, h2⟩ := pl_in (p := (y, a, b, c)) hW hH hn ⟨hy, by rw [if_neg (by decide), if_neg (by decide)]; exact ⟨b1, c1, c2⟩⟩ (fun q => absurd q (by decide)) (fun q => absurd q (by decide))
      refine ⟨k, h1, fun i hi => ?_⟩
      rw [h2]
      rcases (show i = 0 ∨ i = 1 ∨ i = 2 by omega) with e | e | e <;> subst e
      · exact a3
      · exact b3
      · exact c3
  · rintro ⟨k, hk, hF⟩
    obtain ⟨p1, p2⟩ := (pl_at hW hH hn (k := k) (by omega)).1 hk
    refine ⟨(plk W n k).1, p1, ?_⟩
    rcases (show n = 1 ∨ n = 2 ∨ n = 3 by omega) with e | e | e
    · subst e
      rw [if_pos rfl] at p2
      exact ⟨_, Nat.zero_le _, p2, hF 0 (by omega), trivial⟩
    · subst e
      rw [if_neg (by decide), if_pos rfl] at p2
      exact ⟨(plk W 2 k).2.1, Nat.zero_le _, by omega, hF 0 (by omega), (plk W 2 k).2.2.1, p2.1, p2.2, hF 1 (by omega), trivial⟩
    · subst e
      rw [if_neg (by decide), if_neg (by decide)] at p2
      exact ⟨(plk W 3 k).2.1, Nat.zero_le _, by omega, hF 0 (by omega), (plk W 3 k).2.2.1, p2.1, by omega, hF 1 (by omega), (plk W 3 k).2.2.2, p2.2.1, p2.2.2, hF 2 (by omega), trivial⟩
def said (s : Nat → Nat) (h w set : Nat) : Bool := (List.range (s 1 - 3)).any (fun y => grA (fun i x => FT s h w set (wd w i) (12 * y + x)) (s 0) (wl w) 0 0)
theorem said_iff {s : Nat → Nat} (I : Iv s) {h w set : Nat} : said s h w set = true ↔ ∃ k, k < PN (s 0) (s 1) (wl w) ∧ ∀ i, i < wl w → FT s h w set (wd w i) (12 * (plk (s 0) (wl w) k).1 + pcol (plk (s 0) (wl w) k) i) = true := by
  have i0 := I.1
  have i1 := I.2.1
  rw [← exC_place (F := fun y i x => FT s h w set (wd w i) (12 * y + x)) i0 i1 (wl_rng w), said, List.any_eq_true]
  constructor
  · rintro ⟨y, hy, g⟩
    have := List.mem_range.mp hy
    exact ⟨y, by omega, (grA_iff i0.2 _ _ _).mp g⟩
  · rintro ⟨y, hy, g⟩
    exact ⟨y, List.mem_range.mpr (by omega), (grA_iff i0.2 _ _ _).mpr g⟩
section
variable {fu : Nat} {s : Nat → Nat} {kinds painOf payFor refused shapes le : Nat → Int32} {owned litIn : Nat → Int64} {h w set : Nat}
theorem FT_iff (I : Iv s) {j c : Nat} (hj : j < s 3) : FT s h w set j c = true ↔ ∃ y, y < 4096 ∧ rd s y = j ∧ ∀ k, k < 12 → (y ^^^ shL s h c).testBit k = true → mayB s h w set (cel c k) = true := by
  have hs := I.2.2.2.2.2.2.2.2.2.1 _ hj
  rw [FT, decide_eq_true_eq, fits_iff I.2.2.2.1 hj hs (shL_lt s h c) (muS_lt s h w set c)]
  constructor
  · rintro ⟨y, h1, h2, h3⟩
    exact ⟨y, h1, h2, (mu_iff h1).mp h3⟩
  · rintro ⟨y, h1, h2, h3⟩
    exact ⟨y, h1, h2, (mu_iff h1).mpr h3⟩
theorem FT_BX (I : Iv s) (hh : h < 4) {i c : Nat} (hc : c < 22) (hw : okW s w) (hi : i < wl w) : FT s h w 63 (wd w i) c = decide ((BX s h w i c).1 ≠ 65535) := by
  have hwd := wd_lt hw hi
  have hb := best_spec (f := bxF s h w c (wd w i)) 4096 (fun k _ => by rcases bxF_rng (h := h) (w := w) (j := wd w i) (x := k) I hc with q | q <;> omega)
  rw [Bool.eq_iff_iff, decide_eq_true_eq, FT_iff I hwd]
  constructor
  · rintro ⟨y, h1, h2, h3⟩ e
    have hp := (mu_price I hh hc h1).mp ((mu_iff h1).mpr h3)
    have hv : bxF s h w c (wd w i) y = prX s h w c y := by rw [bxF, if_pos h2]
    rw [BX] at e
    rcases hb with ⟨-, -, b⟩ | ⟨b, -⟩
    · have := b y h1
      rw [hv] at this
      exact hp this
    · omega
  · intro e
    rw [BX] at e
    rcases hb with ⟨b, -⟩ | ⟨b1, b2, b3, -⟩
    · exact absurd b e
    · have hv : bxF s h w c (wd w i) (best (bxF s h w c (wd w i)) 4096).2 ≠ 65535 := by omega
      rw [bxF] at hv
      split at hv
      · rename_i g
        exact ⟨_, b2, g, (mu_iff b2).mp ((mu_price I hh hc b2).mpr hv)⟩
      · exact absurd rfl hv
theorem tot_iff {p : PL} {m : Nat} (I : Iv s) (hp : pok (s 0) (s 1) (wl w) p) (hm : m ≤ wl w) : totS s h w p m ≠ 65535 ↔ ∀ i, i < m → (BX s h w i (12 * p.1 + pcol p i)).1 ≠ 65535 := by
  constructor
  · exact fun q => tot_N q
  · intro q
    induction m with
    | zero => rw [totS]; decide
    | succ m ih =>
      have hr := wl_rng w
      have h1 := ih (by omega) (fun i hi => q i (by omega))
      have h2 := q m (by omega)
      have ht := totS_rng (s := s) (h := h) I hp m (by omega)
      have hb := BX_rng (s := s) (h := h) (w := w) (i := m) I (boxB_lt I (pok_box I (n := wl w) (by omega) hp (i := m) (by omega)))
      rw [totS, if_neg (by omega)]
      omega
/-- a word can be said just where it has least pains -/
theorem said_BP (I : Iv s) (hh : h < 4) (hw : okW s w) : said s h w 63 = decide ((BP s h w).1 ≠ 65535) := by
  have hr := wl_rng w
  have hN := pl_le I.1 I.2.1 hr
  have hb := best_spec (f := TT s h w) (PN (s 0) (s 1) (wl w)) (fun k hk => by rcases TT_rng (h := h) I hk with q | q <;> omega)
  have hFT : ∀ k, k < PN (s 0) (s 1) (wl w) → ((∀ i, i < wl w → FT s h w 63 (wd w i) (12 * (plk (s 0) (wl w) k).1 + pcol (plk (s 0) (wl w) k) i) = true) ↔ TT s h w k ≠ 65535) := by
    intro k hk
    have hp := (pl_at I.1 I.2.1 hr (k := k) (by omega)).1 hk
    rw [TT, tot_iff I hp (Nat.le_refl _)]
    have e : ∀ i, i < wl w → FT s h w 63 (wd w i) (12 * (plk (s 0) (wl w) k).1 + pcol (plk (s 0) (wl w) k) i) = decide ((BX s h w i (12 * (plk (s 0) (wl w) k).1 + pcol (plk (s 0) (wl w) k) i)).1 ≠ 65535) := fun i hi => FT_BX I hh (boxB_lt I (pok_box I (by omega) hp hi)) hw hi
    constructor
    · intro g i hi
      have := g i hi
      rw [e i hi] at this
      exact of_decide_eq_true this
    · intro g i hi
      rw [e i hi]
      exact decide_eq_true (g i hi)
  rw [Bool.eq_iff_iff, decide_eq_true_eq, said_iff I, BP]
  constructor
  · rintro ⟨k, hk, g⟩ e
    have h1 := (hFT k hk).mp g
    rcases hb with ⟨-, -, b⟩ | ⟨b, -⟩
    · exact h1 (b k hk)
    · omega
  · intro e
    rcases hb with ⟨b, -⟩ | ⟨b1, b2, b3, -⟩
    · exact absurd b e
    · exact ⟨_, b2, (hFT _ b2).mpr (by omega)⟩
theorem x5_fits (hf : 5000 ≤ fu) (I : Iv s) (L : LR s litIn) (S : HR s shapes) (hh : h < 4) {j c : Nat} (hj : j < s 3) (hc : c < 22) : f_X5_fits fu (nI (s 5)) (nI (s 3)) litIn shapes (nI j) (nI c) (nI h) (lN (MAY s h w set)) = some (bI (FT s h w set j c)) := by
  have i3 := I.2.2.2.1
  have hmay : shp (MAY s h w set).testBit c = shp (mayB s h w set) c := by
    unfold shp
    apply mkN_cong
    intro k hk
    rw [MAY, mkN_bit]
    simp
    omega
  have hs := I.2.2.2.2.2.2.2.2.2.1 _ hj
  have e1 := x7_shapeIn (fu := fu) (c := c) hf (LI_lt s h) (by omega)
  have e2 := x7_shapeIn (fu := fu) (c := c) hf (MAY_lt s h w set) (by omega)
  rw [shL_LI hc] at e1
  rw [hmay] at e2
  have e3 := pz_not (shp_lt (mayB s h w set) c)
  have hx := xor_lt hs (and_lt (a := s (30 + j) ^^^ shL s h c) (muS_lt s h w set c))
  have hrd := x5_readAs (fu := fu) hf I S hx
  have hrr := rd_rng (s := s) (s (30 + j) ^^^ ((s (30 + j) ^^^ shL s h c) &&& muS s h w set c))
  have hre := eI_lt (j := j) (by omega) (x := rd s (s (30 + j) ^^^ ((s (30 + j) ^^^ shL s h c) &&& muS s h w set c))) (by omega)
  rw [f_X5_fits, e2, pz_bind, show ((nI (shp (mayB s h w set) c) ^^^ -1) &&& 4095 : Int32) = nI (muS s h w set c) from e3, pz_let, pz_rd _ _ (by omega) (by omega), pz_rd _ _ hh (by omega), S j hj, L h hh, e1, pz_bind, pz_rd _ _ (by omega) (by omega), S j hj, pz_xor, pz_and, pz_xor, hrd, pz_bind, FT]
  by_cases g : rd s (s (30 + j) ^^^ ((s (30 + j) ^^^ shL s h c) &&& muS s h w set c)) = j
  · rw [if_pos (by rw [hre]; exact g), decide_eq_true g]; rfl
  · rw [if_neg (by rw [hre]; exact g), decide_eq_false g]; rfl
theorem x5_firstColumn (hf : 5000 ≤ fu) (I : Iv s) (L : LR s litIn) (S : HR s shapes) (hh : h < 4) {j y x : Nat} (hj : j < s 3) (hy : y + 4 ≤ s 1) (hx : x < 100) : f_X5_firstColumn fu (nI (s 0)) (nI (s 5)) (nI (s 3)) litIn shapes (nI j) (nI y) (nI x) (nI h) (lN (MAY s h w set)) = some (eI (fc (fun x => FT s h w set j (12 * y + x)) (s 0) x)) := by
  have i0 := I.1
  have i1 := I.2.1
  have hq := fc_q (F := fun x => FT s h w set j (12 * y + x)) (x := x) i0.2
  rw [f_X5_firstColumn]
  refine pz_upE (fun n k => X5_firstColumn_L3 fu (nI (s 0)) (nI (s 5)) (nI (s 3)) litIn shapes (nI j) (nI y) (nI h) (lN (MAY s h w set)) n (nI (x + k))) (s 0 - 2 - x) _ (fun k => ∀ q, x ≤ q → q < x + k → FT s h w set j (12 * y + q) = false) (fun n k hk hp => ?_) (fun n hp => ?_) fu 0 (by omega) (by omega) (fun q h1 h2 => by omega)
  · have hfit := x5_fits (fu := fu) (w := w) (set := set) hf I L S hh hj (show 12 * y + (x + k) < 22 by omega)
    rw [X5_firstColumn_L3]
    generalize X5_firstColumn_L3 fu (nI (s 0)) (nI (s 5)) (nI (s 3)) litIn shapes (nI j) (nI y) (nI h) (lN (MAY s h w set)) n = rec
    by_cases g : FT s h w set j (12 * y + (x + k)) = true
    · left
      have e : fc (fun x => FT s h w set j (12 * y + x)) (s 0) x = x + k := by
        rcases hq with ⟨a, b⟩ | ⟨a, b, c, d⟩
        · have := b (x + k) (by omega) (by omega)
          try simp only at this
          rw [this] at g; cases g
        · try simp only at c
          rcases Nat.lt_trichotomy (fc (fun x => FT s h w set j (12 * y + x)) (s 0) x) (x + k) with q | q | q
          · rw [hp _ a q] at c; cases c
          · exact q
          · have := d (x + k) (by omega) q
            try simp only at this
            rw [this] at g; cases g
      rw [e]
      simp (disch := omega) only [hfit, g, pz_c0, pz_c1, pz_c2, pz_c3, pz_c4, pz_c5, pz_c6, pz_c7, pz_c8, pz_c9, pz_c10, pz_c11, pz_c12, pz_c13, pz_c14, pz_c15, pz_c16, pz_c17, pz_c18, pz_c19, pz_c20, pz_c21, pz_c22, pz_c23, pz_c24, pz_c25, pz_c26, pz_c27, pz_c28, pz_c29, pz_c30, pz_c31, pz_c32, pz_c33, pz_c34, pz_c35, pz_c36, pz_c42, pz_c48, pz_c57, pz_c59, pz_c60, pz_c63, pz_c64, pz_c66, pz_c96, pz_c97, pz_c99, pz_c100, pz_c122, pz_c127, pz_c128, pz_c200, pz_c255, pz_c299, pz_c300, pz_c336, pz_c354, pz_c585, pz_c666, pz_c708, pz_c1000, pz_c1170, pz_c4095, pz_c4096, pz_c4608, pz_c1000000, nI_add, pk_mul, pk_sub, pz_sub, pk_div, pz_or, pz_and, pz_xor, pz_n31, pz_shl, pz_shr, pz_eq, pz_le, pz_lt, pz_eqm, pz_meq, pz_mmeq, pz_lem, pz_mle, pz_ltm, pz_mlt, pz_mmle, pz_mmlt, pz_rd, pz_ck, pz_let, pz_cl, pz_bind, pz_gd, pz_zbb, eI_of, eI_N, pz_leT, pz_leF, pz_ltT, pz_ltF, pz_eqT, pz_eqF, if_pos, if_neg, if_true, if_false, ite_true, ite_false, pz_b0, pz_b1i, pz_bf, pz_bt, Bool.false_eq_true, Bool.true_eq_false, decide_true, decide_false, and_true, and_false, true_and, false_and, and_self, or_true, or_false, true_or, false_or, or_self, not_true_eq_false, not_false_eq_true, ne_eq, reduceIte, eq_self, upd_at]
    · right
      rw [Bool.not_eq_true] at g
      refine ⟨fun q h1 h2 => ?_, ?_⟩
      · rcases Nat.lt_or_ge q (x + k) with e | e
        · exact hp q h1 e
        · obtain rfl : q = x + k := by omega
          exact g
      · simp (disch := omega) only [hfit, g, pz_c0, pz_c1, pz_c2, pz_c3, pz_c4, pz_c5, pz_c6, pz_c7, pz_c8, pz_c9, pz_c10, pz_c11, pz_c12, pz_c13, pz_c14, pz_c15, pz_c16, pz_c17, pz_c18, pz_c19, pz_c20, pz_c21, pz_c22, pz_c23, pz_c24, pz_c25, pz_c26, pz_c27, pz_c28, pz_c29, pz_c30, pz_c31, pz_c32, pz_c33, pz_c34, pz_c35, pz_c36, pz_c42, pz_c48, pz_c57, pz_c59, pz_c60, pz_c63, pz_c64, pz_c66, pz_c96, pz_c97, pz_c99, pz_c100, pz_c122, pz_c127, pz_c128, pz_c200, pz_c255, pz_c299, pz_c300, pz_c336, pz_c354, pz_c585, pz_c666, pz_c708, pz_c1000, pz_c1170, pz_c4095, pz_c4096, pz_c4608, pz_c1000000, nI_add, pk_mul, pk_sub, pz_sub, pk_div, pz_or, pz_and, pz_xor, pz_n31, pz_shl, pz_shr, pz_eq, pz_le, pz_lt, pz_eqm, pz_meq, pz_mmeq, pz_lem, pz_mle, pz_ltm, pz_mlt, pz_mmle, pz_mmlt, pz_rd, pz_ck, pz_let, pz_cl, pz_bind, pz_gd, pz_zbb, eI_of, eI_N, pz_leT, pz_leF, pz_ltT, pz_ltF, pz_eqT, pz_eqF, if_pos, if_neg, if_true, if_false, ite_true, ite_false, pz_b0, pz_b1i, pz_bf, pz_bt, Bool.false_eq_true, Bool.true_eq_false, decide_true, decide_false, and_true, and_false, true_and, false_and, and_self, or_true, or_false, true_or, false_or, or_self, not_true_eq_false, not_false_eq_true, ne_eq, reduceIte, eq_self, upd_at]
        rw [Nat.add_assoc]
  · have e : fc (fun x => FT s h w set j (12 * y + x)) (s 0) x = 65535 := by
      rcases hq with ⟨a, b⟩ | ⟨a, b, c, d⟩
      · exact a
      · try simp only at c
        rw [hp _ a (by omega)] at c; cases c
    rw [e, X5_firstColumn_L3]
    generalize X5_firstColumn_L3 fu (nI (s 0)) (nI (s 5)) (nI (s 3)) litIn shapes (nI j) (nI y) (nI h) (lN (MAY s h w set)) n = rec
    simp (disch := omega) only [pz_c0, pz_c1, pz_c2, pz_c3, pz_c4, pz_c5, pz_c6, pz_c7, pz_c8, pz_c9, pz_c10, pz_c11, pz_c12, pz_c13, pz_c14, pz_c15, pz_c16, pz_c17, pz_c18, pz_c19, pz_c20, pz_c21, pz_c22, pz_c23, pz_c24, pz_c25, pz_c26, pz_c27, pz_c28, pz_c29, pz_c30, pz_c31, pz_c32, pz_c33, pz_c34, pz_c35, pz_c36, pz_c42, pz_c48, pz_c57, pz_c59, pz_c60, pz_c63, pz_c64, pz_c66, pz_c96, pz_c97, pz_c99, pz_c100, pz_c122, pz_c127, pz_c128, pz_c200, pz_c255, pz_c299, pz_c300, pz_c336, pz_c354, pz_c585, pz_c666, pz_c708, pz_c1000, pz_c1170, pz_c4095, pz_c4096, pz_c4608, pz_c1000000, nI_add, pk_mul, pk_sub, pz_sub, pk_div, pz_or, pz_and, pz_xor, pz_n31, pz_shl, pz_shr, pz_eq, pz_le, pz_lt, pz_eqm, pz_meq, pz_mmeq, pz_lem, pz_mle, pz_ltm, pz_mlt, pz_mmle, pz_mmlt, pz_rd, pz_ck, pz_let, pz_cl, pz_bind, pz_gd, pz_zbb, eI_of, eI_N, pz_leT, pz_leF, pz_ltT, pz_ltF, pz_eqT, pz_eqF, if_pos, if_neg, if_true, if_false, ite_true, ite_false, pz_b0, pz_b1i, pz_bf, pz_bt, Bool.false_eq_true, Bool.true_eq_false, decide_true, decide_false, and_true, and_false, true_and, false_and, and_self, or_true, or_false, true_or, false_or, or_self, not_true_eq_false, not_false_eq_true, ne_eq, reduceIte, eq_self, upd_at]
theorem cs_at (hf : 5000 ≤ fu) (I : Iv s) (L : LR s litIn) (S : HR s shapes) (hh : h < 4) (hw : okW s w) (hl : ∀ i, i < wl w → le i = nI (wd w i)) {y : Nat} (hy : y + 4 ≤ s 1) : ∀ (r i x n : Nat), i + r = wl w → x < 50 → r < n → X5_canBeSaidAt_L6 fu (nI (s 0)) (nI (s 5)) (nI (s 3)) litIn shapes (nI (wl w)) le (nI y) (nI h) (lN (MAY s h w set)) n (nI x) (nI i) = some (bI (grA (fun i x => FT s h w set (wd w i) (12 * y + x)) (s 0) r i x))
  | 0, i, x, n, hi, hx, hn => by
    obtain ⟨m, rfl⟩ : ∃ m, n = m + 1 := ⟨n - 1, by omega⟩
    have hr := wl_rng w
    rw [X5_canBeSaidAt_L6]
    generalize X5_canBeSaidAt_L6 fu (nI (s 0)) (nI (s 5)) (nI (s 3)) litIn shapes (nI (wl w)) le (nI y) (nI h) (lN (MAY s h w set)) m = rec
    simp (disch := omega) only [grA, pz_c0, pz_c1, pz_c2, pz_c3, pz_c4, pz_c5, pz_c6, pz_c7, pz_c8, pz_c9, pz_c10, pz_c11, pz_c12, pz_c13, pz_c14, pz_c15, pz_c16, pz_c17, pz_c18, pz_c19, pz_c20, pz_c21, pz_c22, pz_c23, pz_c24, pz_c25, pz_c26, pz_c27, pz_c28, pz_c29, pz_c30, pz_c31, pz_c32, pz_c33, pz_c34, pz_c35, pz_c36, pz_c42, pz_c48, pz_c57, pz_c59, pz_c60, pz_c63, pz_c64, pz_c66, pz_c96, pz_c97, pz_c99, pz_c100, pz_c122, pz_c127, pz_c128, pz_c200, pz_c255, pz_c299, pz_c300, pz_c336, pz_c354, pz_c585, pz_c666, pz_c708, pz_c1000, pz_c1170, pz_c4095, pz_c4096, pz_c4608, pz_c1000000, nI_add, pk_mul, pk_sub, pz_sub, pk_div, pz_or, pz_and, pz_xor, pz_n31, pz_shl, pz_shr, pz_eq, pz_le, pz_lt, pz_eqm, pz_meq, pz_mmeq, pz_lem, pz_mle, pz_ltm, pz_mlt, pz_mmle, pz_mmlt, pz_rd, pz_ck, pz_let, pz_cl, pz_bind, pz_gd, pz_zbb, eI_of, eI_N, pz_leT, pz_leF, pz_ltT, pz_ltF, pz_eqT, pz_eqF, if_pos, if_neg, if_true, if_false, ite_true, ite_false, pz_b0, pz_b1i, pz_bf, pz_bt, Bool.false_eq_true, Bool.true_eq_false, decide_true, decide_false, and_true, and_false, true_and, false_and, and_self, or_true, or_false, true_or, false_or, or_self, not_true_eq_false, not_false_eq_true, ne_eq, reduceIte, eq_self, upd_at]
  | r + 1, i, x, n, hi, hx, hn => by
    obtain ⟨m, rfl⟩ : ∃ m, n = m + 1 := ⟨n - 1, by omega⟩
    have hr := wl_rng w
    have i0 := I.1
    have hwd := wd_lt hw (show i < wl w by omega)
    have hfc := x5_firstColumn (fu := fu) (w := w) (set := set) hf I L S hh hwd hy (show x < 100 by omega)
    have hq := fc_q (F := fun x => FT s h w set (wd w i) (12 * y + x)) (x := x) i0.2
    have hli := hl i (by omega)
    rw [grA]
    rcases hq with ⟨a, b⟩ | ⟨a, b, c, d⟩
    · rw [X5_canBeSaidAt_L6]
      generalize X5_canBeSaidAt_L6 fu (nI (s 0)) (nI (s 5)) (nI (s 3)) litIn shapes (nI (wl w)) le (nI y) (nI h) (lN (MAY s h w set)) m = rec
      rw [a] at hfc
      simp (disch := omega) only [hli, hfc, a, pz_c0, pz_c1, pz_c2, pz_c3, pz_c4, pz_c5, pz_c6, pz_c7, pz_c8, pz_c9, pz_c10, pz_c11, pz_c12, pz_c13, pz_c14, pz_c15, pz_c16, pz_c17, pz_c18, pz_c19, pz_c20, pz_c21, pz_c22, pz_c23, pz_c24, pz_c25, pz_c26, pz_c27, pz_c28, pz_c29, pz_c30, pz_c31, pz_c32, pz_c33, pz_c34, pz_c35, pz_c36, pz_c42, pz_c48, pz_c57, pz_c59, pz_c60, pz_c63, pz_c64, pz_c66, pz_c96, pz_c97, pz_c99, pz_c100, pz_c122, pz_c127, pz_c128, pz_c200, pz_c255, pz_c299, pz_c300, pz_c336, pz_c354, pz_c585, pz_c666, pz_c708, pz_c1000, pz_c1170, pz_c4095, pz_c4096, pz_c4608, pz_c1000000, nI_add, pk_mul, pk_sub, pz_sub, pk_div, pz_or, pz_and, pz_xor, pz_n31, pz_shl, pz_shr, pz_eq, pz_le, pz_lt, pz_eqm, pz_meq, pz_mmeq, pz_lem, pz_mle, pz_ltm, pz_mlt, pz_mmle, pz_mmlt, pz_rd, pz_ck, pz_let, pz_cl, pz_bind, pz_gd, pz_zbb, eI_of, eI_N, pz_leT, pz_leF, pz_ltT, pz_ltF, pz_eqT, pz_eqF, if_pos, if_neg, if_true, if_false, ite_true, ite_false, pz_b0, pz_b1i, pz_bf, pz_bt, Bool.false_eq_true, Bool.true_eq_false, decide_true, decide_false, and_true, and_false, true_and, false_and, and_self, or_true, or_false, true_or, false_or, or_self, not_true_eq_false, not_false_eq_true, ne_eq, reduceIte, eq_self, upd_at]
    · have ih := cs_at hf I L S hh hw hl hy r (i + 1) (fc (fun x => FT s h w set (wd w i) (12 * y + x)) (s 0) x + 4) m (by omega) (by omega) (by omega)
      rw [if_neg (by omega), ← ih, X5_canBeSaidAt_L6]
      generalize X5_canBeSaidAt_L6 fu (nI (s 0)) (nI (s 5)) (nI (s 3)) litIn shapes (nI (wl w)) le (nI y) (nI h) (lN (MAY s h w set)) m = rec
      generalize fc (fun x => FT s h w set (wd w i) (12 * y + x)) (s 0) x = v at *
      simp (disch := omega) only [hli, hfc, pz_c0, pz_c1, pz_c2, pz_c3, pz_c4, pz_c5, pz_c6, pz_c7, pz_c8, pz_c9, pz_c10, pz_c11, pz_c12, pz_c13, pz_c14, pz_c15, pz_c16, pz_c17, pz_c18, pz_c19, pz_c20, pz_c21, pz_c22, pz_c23, pz_c24, pz_c25, pz_c26, pz_c27, pz_c28, pz_c29, pz_c30, pz_c31, pz_c32, pz_c33, pz_c34, pz_c35, pz_c36, pz_c42, pz_c48, pz_c57, pz_c59, pz_c60, pz_c63, pz_c64, pz_c66, pz_c96, pz_c97, pz_c99, pz_c100, pz_c122, pz_c127, pz_c128, pz_c200, pz_c255, pz_c299, pz_c300, pz_c336, pz_c354, pz_c585, pz_c666, pz_c708, pz_c1000, pz_c1170, pz_c4095, pz_c4096, pz_c4608, pz_c1000000, nI_add, pk_mul, pk_sub, pz_sub, pk_div, pz_or, pz_and, pz_xor, pz_n31, pz_shl, pz_shr, pz_eq, pz_le, pz_lt, pz_eqm, pz_meq, pz_mmeq, pz_lem, pz_mle, pz_ltm, pz_mlt, pz_mmle, pz_mmlt, pz_rd, pz_ck, pz_let, pz_cl, pz_bind, pz_gd, pz_zbb, eI_of, eI_N, pz_leT, pz_leF, pz_ltT, pz_ltF, pz_eqT, pz_eqF, if_pos, if_neg, if_true, if_false, ite_true, ite_false, pz_b0, pz_b1i, pz_bf, pz_bt, Bool.false_eq_true, Bool.true_eq_false, decide_true, decide_false, and_true, and_false, true_and, false_and, and_self, or_true, or_false, true_or, false_or, or_self, not_true_eq_false, not_false_eq_true, ne_eq, reduceIte, eq_self, upd_at]
theorem x5_canBeSaid (hf : 5000 ≤ fu) (I : Iv s) (L : LR s litIn) (S : HR s shapes) (hh : h < 4) (hw : okW s w) (hl : ∀ i, i < wl w → le i = nI (wd w i)) : f_X5_canBeSaid fu (nI (s 0)) (nI (s 1)) (nI (s 5)) (nI (s 3)) litIn shapes (nI (wl w)) le (nI h) (lN (MAY s h w set)) = some (bI (said s h w set)) := by
  have hr := wl_rng w
  have i1 := I.2.1
  rw [f_X5_canBeSaid]
  refine pz_upE (fun n y => X5_canBeSaid_L3 fu (nI (s 0)) (nI (s 1)) (nI (s 5)) (nI (s 3)) litIn shapes (nI (wl w)) le (nI h) (lN (MAY s h w set)) n (nI y)) (s 1 - 3) _ (fun y => ∀ q, q < y → grA (fun i x => FT s h w set (wd w i) (12 * q + x)) (s 0) (wl w) 0 0 = false) (fun n y hy hp => ?_) (fun n hp => ?_) fu 0 (by omega) (by omega) (fun q h1 => by omega)
  · have e := cs_at (fu := fu) (set := set) hf I L S hh hw hl (show y + 4 ≤ s 1 by omega) (wl w) 0 0 fu (by omega) (by omega) (by omega)
    rw [X5_canBeSaid_L3]
    generalize X5_canBeSaid_L3 fu (nI (s 0)) (nI (s 1)) (nI (s 5)) (nI (s 3)) litIn shapes (nI (wl w)) le (nI h) (lN (MAY s h w set)) n = rec
    have e2 : f_X5_canBeSaidAt fu (nI (s 0)) (nI (s 5)) (nI (s 3)) litIn shapes (nI (wl w)) le (nI y) (nI h) (lN (MAY s h w set)) = _ := e
    by_cases g : grA (fun i x => FT s h w set (wd w i) (12 * y + x)) (s 0) (wl w) 0 0 = true
    · left
      have hs : said s h w set = true := by
        rw [said, List.any_eq_true]
        exact ⟨y, List.mem_range.mpr hy, g⟩
      simp (disch := omega) only [e2, g, hs, pz_c0, pz_c1, pz_c2, pz_c3, pz_c4, pz_c5, pz_c6, pz_c7, pz_c8, pz_c9, pz_c10, pz_c11, pz_c12, pz_c13, pz_c14, pz_c15, pz_c16, pz_c17, pz_c18, pz_c19, pz_c20, pz_c21, pz_c22, pz_c23, pz_c24, pz_c25, pz_c26, pz_c27, pz_c28, pz_c29, pz_c30, pz_c31, pz_c32, pz_c33, pz_c34, pz_c35, pz_c36, pz_c42, pz_c48, pz_c57, pz_c59, pz_c60, pz_c63, pz_c64, pz_c66, pz_c96, pz_c97, pz_c99, pz_c100, pz_c122, pz_c127, pz_c128, pz_c200, pz_c255, pz_c299, pz_c300, pz_c336, pz_c354, pz_c585, pz_c666, pz_c708, pz_c1000, pz_c1170, pz_c4095, pz_c4096, pz_c4608, pz_c1000000, nI_add, pk_mul, pk_sub, pz_sub, pk_div, pz_or, pz_and, pz_xor, pz_n31, pz_shl, pz_shr, pz_eq, pz_le, pz_lt, pz_eqm, pz_meq, pz_mmeq, pz_lem, pz_mle, pz_ltm, pz_mlt, pz_mmle, pz_mmlt, pz_rd, pz_ck, pz_let, pz_cl, pz_bind, pz_gd, pz_zbb, eI_of, eI_N, pz_leT, pz_leF, pz_ltT, pz_ltF, pz_eqT, pz_eqF, if_pos, if_neg, if_true, if_false, ite_true, ite_false, pz_b0, pz_b1i, pz_bf, pz_bt, Bool.false_eq_true, Bool.true_eq_false, decide_true, decide_false, and_true, and_false, true_and, false_and, and_self, or_true, or_false, true_or, false_or, or_self, not_true_eq_false, not_false_eq_true, ne_eq, reduceIte, eq_self, upd_at]
    · right
      rw [Bool.not_eq_true] at g
      refine ⟨fun q h1 => ?_, ?_⟩
      · rcases Nat.lt_or_ge q y with e | e
        · exact hp q e
        · obtain rfl : q = y := by omega
          exact g
      · simp (disch := omega) only [e2, g, pz_c0, pz_c1, pz_c2, pz_c3, pz_c4, pz_c5, pz_c6, pz_c7, pz_c8, pz_c9, pz_c10, pz_c11, pz_c12, pz_c13, pz_c14, pz_c15, pz_c16, pz_c17, pz_c18, pz_c19, pz_c20, pz_c21, pz_c22, pz_c23, pz_c24, pz_c25, pz_c26, pz_c27, pz_c28, pz_c29, pz_c30, pz_c31, pz_c32, pz_c33, pz_c34, pz_c35, pz_c36, pz_c42, pz_c48, pz_c57, pz_c59, pz_c60, pz_c63, pz_c64, pz_c66, pz_c96, pz_c97, pz_c99, pz_c100, pz_c122, pz_c127, pz_c128, pz_c200, pz_c255, pz_c299, pz_c300, pz_c336, pz_c354, pz_c585, pz_c666, pz_c708, pz_c1000, pz_c1170, pz_c4095, pz_c4096, pz_c4608, pz_c1000000, nI_add, pk_mul, pk_sub, pz_sub, pk_div, pz_or, pz_and, pz_xor, pz_n31, pz_shl, pz_shr, pz_eq, pz_le, pz_lt, pz_eqm, pz_meq, pz_mmeq, pz_lem, pz_mle, pz_ltm, pz_mlt, pz_mmle, pz_mmlt, pz_rd, pz_ck, pz_let, pz_cl, pz_bind, pz_gd, pz_zbb, eI_of, eI_N, pz_leT, pz_leF, pz_ltT, pz_ltF, pz_eqT, pz_eqF, if_pos, if_neg, if_true, if_false, ite_true, ite_false, pz_b0, pz_b1i, pz_bf, pz_bt, Bool.false_eq_true, Bool.true_eq_false, decide_true, decide_false, and_true, and_false, true_and, false_and, and_self, or_true, or_false, true_or, false_or, or_self, not_true_eq_false, not_false_eq_true, ne_eq, reduceIte, eq_self, upd_at]
  · have hs : said s h w set = false := by
      rw [said, List.any_eq_false]
      intro y hy
      rw [hp y (List.mem_range.mp hy)]
      decide
    rw [X5_canBeSaid_L3]
    generalize X5_canBeSaid_L3 fu (nI (s 0)) (nI (s 1)) (nI (s 5)) (nI (s 3)) litIn shapes (nI (wl w)) le (nI h) (lN (MAY s h w set)) n = rec
    simp (disch := omega) only [hs, pz_c0, pz_c1, pz_c2, pz_c3, pz_c4, pz_c5, pz_c6, pz_c7, pz_c8, pz_c9, pz_c10, pz_c11, pz_c12, pz_c13, pz_c14, pz_c15, pz_c16, pz_c17, pz_c18, pz_c19, pz_c20, pz_c21, pz_c22, pz_c23, pz_c24, pz_c25, pz_c26, pz_c27, pz_c28, pz_c29, pz_c30, pz_c31, pz_c32, pz_c33, pz_c34, pz_c35, pz_c36, pz_c42, pz_c48, pz_c57, pz_c59, pz_c60, pz_c63, pz_c64, pz_c66, pz_c96, pz_c97, pz_c99, pz_c100, pz_c122, pz_c127, pz_c128, pz_c200, pz_c255, pz_c299, pz_c300, pz_c336, pz_c354, pz_c585, pz_c666, pz_c708, pz_c1000, pz_c1170, pz_c4095, pz_c4096, pz_c4608, pz_c1000000, nI_add, pk_mul, pk_sub, pz_sub, pk_div, pz_or, pz_and, pz_xor, pz_n31, pz_shl, pz_shr, pz_eq, pz_le, pz_lt, pz_eqm, pz_meq, pz_mmeq, pz_lem, pz_mle, pz_ltm, pz_mlt, pz_mmle, pz_mmlt, pz_rd, pz_ck, pz_let, pz_cl, pz_bind, pz_gd, pz_zbb, eI_of, eI_N, pz_leT, pz_leF, pz_ltT, pz_ltF, pz_eqT, pz_eqF, if_pos, if_neg, if_true, if_false, ite_true, ite_false, pz_b0, pz_b1i, pz_bf, pz_bt, Bool.false_eq_true, Bool.true_eq_false, decide_true, decide_false, and_true, and_false, true_and, false_and, and_self, or_true, or_false, true_or, false_or, or_self, not_true_eq_false, not_false_eq_true, ne_eq, reduceIte, eq_self, upd_at]
end
