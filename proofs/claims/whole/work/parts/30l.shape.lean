/-! A BOX OF A WORD, by the deviations (the class) -/
theorem pz_notA : (List.range 4096).all (fun a => decide ((nI a ^^^ -nI 1) &&& nI 4095 = nI (a ^^^ 4095))) = true := by decide +kernel
theorem pz_not {a : Nat} (h : a < 4096) : (nI a ^^^ -nI 1) &&& nI 4095 = nI (a ^^^ 4095) := of_decide_eq_true (List.all_eq_true.mp pz_notA a (List.mem_range.mpr h))
/-- what must stay of a box, for a set of tenants -/
def muS (s : Nat → Nat) (h w set c : Nat) : Nat := shp (mayB s h w set) c ^^^ 4095
theorem muS_lt (s : Nat → Nat) (h w set c : Nat) : muS s h w set c < 4096 := xor_lt (shp_lt _ _) (by decide)
/-- the least by (value, shape) over the deviations, as the class goes over them -/
def lx (V : Nat → Nat) (sh sl : Nat) : Nat → Nat × Nat
  | 0 => (1000000, 0)
  | k + 1 => if pc (devL.getD k 0) ≤ sl ∧ V (sh ^^^ devL.getD k 0) ≠ 65535 ∧ (V (sh ^^^ devL.getD k 0) < (lx V sh sl k).1 ∨ (V (sh ^^^ devL.getD k 0) = (lx V sh sl k).1 ∧ sh ^^^ devL.getD k 0 < (lx V sh sl k).2)) then (V (sh ^^^ devL.getD k 0), sh ^^^ devL.getD k 0) else lx V sh sl k
def pI (v : Nat) : Int32 := if v = 65535 then nI 1000000 else nI v
theorem lx_q {V : Nat → Nat} {sh sl : Nat} (hV : ∀ x, V x = 65535 ∨ V x ≤ 252) : ∀ k, k ≤ 299 → ((lx V sh sl k = (1000000, 0) ∧ ∀ j, j < k → pc (devL.getD j 0) ≤ sl → V (sh ^^^ devL.getD j 0) = 65535) ∨ ((lx V sh sl k).1 ≤ 252 ∧ V (lx V sh sl k).2 = (lx V sh sl k).1 ∧ (lx V sh sl k).2 < 2 ^ 12 + (lx V sh sl k).2 ∧ (∃ j, j < k ∧ (lx V sh sl k).2 = sh ^^^ devL.getD j 0) ∧ ∀ j, j < k → pc (devL.getD j 0) ≤ sl → V (sh ^^^ devL.getD j 0) ≠ 65535 → (lx V sh sl k).1 < V (sh ^^^ devL.getD j 0) ∨ ((lx V sh sl k).1 = V (sh ^^^ devL.getD j 0) ∧ (lx V sh sl k).2 ≤ sh ^^^ devL.getD j 0)))
  | 0, _ => Or.inl ⟨rfl, fun j h => absurd h (Nat.not_lt_zero j)⟩
  | k + 1, hk => by
    have ih := lx_q (sh := sh) (sl := sl) hV k (by omega)
    have hv := hV (sh ^^^ devL.getD k 0)
    rw [lx]
    by_cases g : pc (devL.getD k 0) ≤ sl ∧ V (sh ^^^ devL.getD k 0) ≠ 65535 ∧ (V (sh ^^^ devL.getD k 0) < (lx V sh sl k).1 ∨ (V (sh ^^^ devL.getD k 0) = (lx V sh sl k).1 ∧ sh ^^^ devL.getD k 0 < (lx V sh sl k).2))
    · rw [if_pos g]
      obtain ⟨g1, g2, g3⟩ := g
      right
      refine ⟨by simp only; omega, rfl, by simp only; omega, ⟨k, by omega, rfl⟩, fun j hj hp hn => ?_⟩
      rcases Nat.lt_or_ge j k with q | q
      · rcases ih with ⟨a, b⟩ | ⟨a, b, -, c, d⟩
        · exact absurd (b j q hp) hn
        · have := d j q hp hn
          simp only
          omega
      · obtain rfl : j = k := by omega
        exact Or.inr ⟨rfl, Nat.le_refl _⟩
    · rw [if_neg g]
      rcases ih with ⟨a, b⟩ | ⟨a, b, b2, ⟨c, c1, c2⟩, d⟩
      · left
        refine ⟨a, fun j hj hp => ?_⟩
        rcases Nat.lt_or_ge j k with q | q
        · exact b j q hp
        · obtain rfl : j = k := by omega
          rcases hv with hv | hv
          · exact hv
          · exfalso
            have a1 : (lx V sh sl j).1 = 1000000 := by rw [a]
            exact g ⟨hp, by omega, Or.inl (by omega)⟩
      · right
        refine ⟨a, b, b2, ⟨c, by omega, c2⟩, fun j hj hp hn => ?_⟩
        rcases Nat.lt_or_ge j k with q | q
        · exact d j q hp hn
        · obtain rfl : j = k := by omega
          by_cases h1 : V (sh ^^^ devL.getD j 0) < (lx V sh sl j).1
          · exact absurd ⟨hp, hn, Or.inl h1⟩ g
          · by_cases h2 : V (sh ^^^ devL.getD j 0) = (lx V sh sl j).1 ∧ sh ^^^ devL.getD j 0 < (lx V sh sl j).2
            · exact absurd ⟨hp, hn, Or.inr h2⟩ g
            · omega
theorem lx_end {V : Nat → Nat} {sh sl k : Nat} (hp : sl < pc (devL.getD k 0)) : ∀ j, k + j ≤ 299 → lx V sh sl (k + j) = lx V sh sl k
  | 0, _ => rfl
  | j + 1, hj => by
    have ih := lx_end (V := V) (sh := sh) hp j (by omega)
    have hm := dev_mono (k := k) (j := k + j) (by omega) (by omega)
    rw [← Nat.add_assoc, lx, if_neg (by rintro ⟨h, -⟩; omega), ih]
/-- both ways find the same shape at the same price -/
theorem lx_best {V : Nat → Nat} {sh sl : Nat} (hsh : sh < 4096) (hsl : sl ≤ 3) (hV : ∀ x, V x = 65535 ∨ V x ≤ 252) (hR : ∀ x, x < 4096 → V x ≠ 65535 → pc (x ^^^ sh) ≤ sl) : ((best V 4096).1 = 65535 ∧ lx V sh sl 299 = (1000000, 0)) ∨ ((best V 4096).1 ≠ 65535 ∧ lx V sh sl 299 = best V 4096) := by
  have hq := lx_q (sh := sh) (sl := sl) hV 299 (by omega)
  have hb := best_spec (f := V) 4096 (fun k _ => by rcases hV k with h | h <;> omega)
  have hx : ∀ x, x < 4096 → V x ≠ 65535 → ∃ j, j < 299 ∧ pc (devL.getD j 0) ≤ sl ∧ sh ^^^ devL.getD j 0 = x := by
    intro x hx hn
    have hp := hR x hx hn
    obtain ⟨j, h1, h2⟩ := dev_in (xor_lt hx hsh) (by omega)
    refine ⟨j, h1, by rw [h2]; exact hp, ?_⟩
    rw [h2, Nat.xor_comm x sh, ← Nat.xor_assoc, Nat.xor_self, Nat.zero_xor]
  rcases hb with ⟨b1, b2, b3⟩ | ⟨b1, b2, b3, b4, b5⟩
  · left
    refine ⟨b1, ?_⟩
    rcases hq with ⟨a, -⟩ | ⟨a, b, -, ⟨j, c1, c2⟩, d⟩
    · exact a
    · exfalso
      have := b3 _ (show (lx V sh sl 299).2 < 4096 by rw [c2]; exact xor_lt hsh (dev_lt c1))
      omega
  · right
    refine ⟨by omega, ?_⟩
    obtain ⟨j, j1, j2, j3⟩ := hx _ b2 (by omega)
    rcases hq with ⟨a, b⟩ | ⟨a, b, -, ⟨q, c1, c2⟩, d⟩
    · exfalso
      have := b j j1 j2
      rw [j3] at this
      omega
    · have hlt : (lx V sh sl 299).2 < 4096 := by rw [c2]; exact xor_lt hsh (dev_lt c1)
      have h1 := d j j1 j2 (by rw [j3]; omega)
      rw [j3] at h1
      have h2 := b4 _ hlt
      have e1 : (lx V sh sl 299).1 = (best V 4096).1 := by omega
      have e2 : (lx V sh sl 299).2 = (best V 4096).2 := by
        rcases Nat.lt_or_ge (lx V sh sl 299).2 (best V 4096).2 with g | g
        · have := b5 _ g
          omega
        · omega
      exact Prod.ext e1 e2
section
variable {fu : Nat} {s : Nat → Nat} {kinds painOf payFor refused shapes : Nat → Int32} {owned litIn : Nat → Int64} {h w c : Nat}
/-- nothing of what must stay is changed: the change is one that the set of tenants can make -/
theorem mu_iff {x set : Nat} (hx : x < 4096) : ((x ^^^ shL s h c) &&& muS s h w set c = 0) ↔ ∀ k, k < 12 → (x ^^^ shL s h c).testBit k = true → mayB s h w set (cel c k) = true := by
  have hbit : ∀ k, k < 12 → (muS s h w set c).testBit k = !mayB s h w set (cel c k) := by
    intro k hk
    have t : ∀ k, k < 12 → Nat.testBit 4095 k = true := by decide +kernel
    rw [muS, Nat.testBit_xor, t k hk, shp, mkN_bit, cel]
    simp [hk]
  constructor
  · intro g k hk hb
    have := congrArg (fun z => z.testBit k) g
    simp only [Nat.testBit_and, Nat.zero_testBit, hb, Bool.true_and, hbit k hk] at this
    simpa using this
  · intro g
    apply Nat.eq_of_testBit_eq
    intro k
    rw [Nat.testBit_and, Nat.zero_testBit]
    rcases Nat.lt_or_ge k 12 with hk | hk
    · cases hb : (x ^^^ shL s h c).testBit k
      · rfl
      · rw [hbit k hk, g k hk hb]; rfl
    · rw [Nat.testBit_lt_two_pow (x := x ^^^ shL s h c) (Nat.lt_of_lt_of_le (xor_lt hx (shL_lt s h c)) (Nat.pow_le_pow_right (n := 2) (by decide) hk))]; rfl
theorem mu_price (I : Iv s) (hh : h < 4) (hc : c < 22) {x : Nat} (hx : x < 4096) : ((x ^^^ shL s h c) &&& muS s h w 63 c = 0) ↔ prX s h w c x ≠ 65535 := by
  rw [mu_iff hx, Ne, prX, prS_iff I hc 12 (by omega)]
  constructor
  · rintro g ⟨k, h1, h2, h3⟩
    have := g k h1 h2
    rw [prN_may I (cel_lt hc h1) hh] at this
    simp [h3] at this
  · intro g k hk hb
    rw [prN_may I (cel_lt hc hk) hh]
    simp only [decide_eq_true_eq]
    intro h3
    exact g ⟨k, hk, hb, h3⟩
theorem prN_0 {d : Nat} (hn : prN s h d w ≠ 65535) : prN s h d 0 = prN s h d w := by
  unfold prN at hn ⊢
  split
  · rfl
  · rename_i g
    rw [if_neg g] at hn
    have e0 : inW 0 (s (6 + 4 * s (36 + d) + 3)) = false := by simp [inW]
    rw [if_neg (by rw [e0]; decide)]
    split at hn
    · exact absurd rfl hn
    · rename_i g2
      rw [if_neg g2]
theorem x1_tellCells {poc : Nat → Int32} (hf : 5000 ≤ fu) (I : Iv s) (T : TR s kinds painOf payFor refused owned) (L : LR s litIn) (hh : h < 4) (hc : c < 22) : f_X1_tellCells fu poc (nI (s 2)) kinds painOf owned litIn (nI c) (nI h) = some (filF (fun k => eI (prN s h (cel c k) 0)) poc 12) := by
  rw [f_X1_tellCells]
  have main := pz_up (fun n i => X1_tellCells_L3 fu (nI (s 2)) kinds painOf owned litIn (nI c) (nI h) n (filF (fun k => eI (prN s h (cel c k) 0)) poc i) (nI i)) 12 (some (filF (fun k => eI (prN s h (cel c k) 0)) poc 12)) (fun n i hi => ?_) (fun n => ?_) fu 0 (by omega) (by omega)
  · rw [filF_0] at main
    exact main
  · have e := filF_s (fun k => eI (prN s h (cel c k) 0)) poc i
    have hp := x5_painsOfChange (fu := fu) hf I T L hh (cel_lt (k := i) hc hi)
    rw [X1_tellCells_L3]
    generalize X1_tellCells_L3 fu (nI (s 2)) kinds painOf owned litIn (nI c) (nI h) n = rec
    simp (disch := omega) only [pz_c0, pz_c1, pz_c2, pz_c3, pz_c4, pz_c5, pz_c6, pz_c7, pz_c8, pz_c9, pz_c10, pz_c11, pz_c12, pz_c13, pz_c14, pz_c15, pz_c16, pz_c17, pz_c18, pz_c19, pz_c20, pz_c21, pz_c22, pz_c23, pz_c24, pz_c25, pz_c26, pz_c27, pz_c28, pz_c29, pz_c30, pz_c31, pz_c32, pz_c33, pz_c34, pz_c35, pz_c36, pz_c42, pz_c48, pz_c57, pz_c59, pz_c60, pz_c63, pz_c64, pz_c66, pz_c96, pz_c97, pz_c99, pz_c100, pz_c122, pz_c127, pz_c128, pz_c200, pz_c255, pz_c299, pz_c300, pz_c336, pz_c354, pz_c585, pz_c666, pz_c708, pz_c1000, pz_c1170, pz_c4095, pz_c4096, pz_c4608, pz_c1000000, nI_add, pk_mul, pk_sub, pz_sub, pk_div, pz_or, pz_and, pz_xor, pz_n31, pz_shl, pz_shr, pz_eq, pz_le, pz_lt, pz_eqm, pz_meq, pz_mmeq, pz_lem, pz_mle, pz_ltm, pz_mlt, pz_mmle, pz_mmlt, pz_rd, pz_ck, pz_let, pz_cl, pz_bind, pz_gd, pz_zbb, eI_of, eI_N, pz_leT, pz_leF, pz_ltT, pz_ltF, pz_eqT, pz_eqF, if_pos, if_neg, if_true, if_false, ite_true, ite_false, pz_b0, pz_b1i, pz_bf, pz_bt, Bool.false_eq_true, Bool.true_eq_false, decide_true, decide_false, and_true, and_false, true_and, false_and, and_self, or_true, or_false, true_or, false_or, or_self, not_true_eq_false, not_false_eq_true, ne_eq, reduceIte, eq_self, upd_at, pz_rm]
    rw [show c + 12 * (i / 3) + i % 3 = cel c i from rfl, hp]
    simp (disch := omega) only [pz_c0, pz_c1, pz_c2, pz_c3, pz_c4, pz_c5, pz_c6, pz_c7, pz_c8, pz_c9, pz_c10, pz_c11, pz_c12, pz_c13, pz_c14, pz_c15, pz_c16, pz_c17, pz_c18, pz_c19, pz_c20, pz_c21, pz_c22, pz_c23, pz_c24, pz_c25, pz_c26, pz_c27, pz_c28, pz_c29, pz_c30, pz_c31, pz_c32, pz_c33, pz_c34, pz_c35, pz_c36, pz_c42, pz_c48, pz_c57, pz_c59, pz_c60, pz_c63, pz_c64, pz_c66, pz_c96, pz_c97, pz_c99, pz_c100, pz_c122, pz_c127, pz_c128, pz_c200, pz_c255, pz_c299, pz_c300, pz_c336, pz_c354, pz_c585, pz_c666, pz_c708, pz_c1000, pz_c1170, pz_c4095, pz_c4096, pz_c4608, pz_c1000000, nI_add, pk_mul, pk_sub, pz_sub, pk_div, pz_or, pz_and, pz_xor, pz_n31, pz_shl, pz_shr, pz_eq, pz_le, pz_lt, pz_eqm, pz_meq, pz_mmeq, pz_lem, pz_mle, pz_ltm, pz_mlt, pz_mmle, pz_mmlt, pz_rd, pz_ck, pz_let, pz_cl, pz_bind, pz_gd, pz_zbb, eI_of, eI_N, pz_leT, pz_leF, pz_ltT, pz_ltF, pz_eqT, pz_eqF, if_pos, if_neg, if_true, if_false, ite_true, ite_false, pz_b0, pz_b1i, pz_bf, pz_bt, Bool.false_eq_true, Bool.true_eq_false, decide_true, decide_false, and_true, and_false, true_and, false_and, and_self, or_true, or_false, true_or, false_or, or_self, not_true_eq_false, not_false_eq_true, ne_eq, reduceIte, eq_self, upd_at, e]
  · rw [X1_tellCells_L3]
    generalize X1_tellCells_L3 fu (nI (s 2)) kinds painOf owned litIn (nI c) (nI h) n = rec
    simp (disch := omega) only [pz_c0, pz_c1, pz_c2, pz_c3, pz_c4, pz_c5, pz_c6, pz_c7, pz_c8, pz_c9, pz_c10, pz_c11, pz_c12, pz_c13, pz_c14, pz_c15, pz_c16, pz_c17, pz_c18, pz_c19, pz_c20, pz_c21, pz_c22, pz_c23, pz_c24, pz_c25, pz_c26, pz_c27, pz_c28, pz_c29, pz_c30, pz_c31, pz_c32, pz_c33, pz_c34, pz_c35, pz_c36, pz_c42, pz_c48, pz_c57, pz_c59, pz_c60, pz_c63, pz_c64, pz_c66, pz_c96, pz_c97, pz_c99, pz_c100, pz_c122, pz_c127, pz_c128, pz_c200, pz_c255, pz_c299, pz_c300, pz_c336, pz_c354, pz_c585, pz_c666, pz_c708, pz_c1000, pz_c1170, pz_c4095, pz_c4096, pz_c4608, pz_c1000000, nI_add, pk_mul, pk_sub, pz_sub, pk_div, pz_or, pz_and, pz_xor, pz_n31, pz_shl, pz_shr, pz_eq, pz_le, pz_lt, pz_eqm, pz_meq, pz_mmeq, pz_lem, pz_mle, pz_ltm, pz_mlt, pz_mmle, pz_mmlt, pz_rd, pz_ck, pz_let, pz_cl, pz_bind, pz_gd, pz_zbb, eI_of, eI_N, pz_leT, pz_leF, pz_ltT, pz_ltF, pz_eqT, pz_eqF, if_pos, if_neg, if_true, if_false, ite_true, ite_false, pz_b0, pz_b1i, pz_bf, pz_bt, Bool.false_eq_true, Bool.true_eq_false, decide_true, decide_false, and_true, and_false, true_and, false_and, and_self, or_true, or_false, true_or, false_or, or_self, not_true_eq_false, not_false_eq_true, ne_eq, reduceIte, eq_self, upd_at]
theorem x1_painsOfCells {poc : Nat → Int32} (hf : 5000 ≤ fu) (I : Iv s) (hP : ∀ k, k < 12 → poc k = eI (prN s h (cel c k) 0)) (hc : c < 22) {x : Nat} (hx : x < 4096) (hn : prX s h w c x ≠ 65535) : f_X1_painsOfCells fu poc (nI (x ^^^ shL s h c)) = some (nI (prX s h w c x)) := by
  rw [f_X1_painsOfCells, prX]
  have hxx := xor_lt hx (shL_lt s h c)
  have hall : ∀ k, k < 12 → (x ^^^ shL s h c).testBit k = true → prN s h (cel c k) w ≠ 65535 := fun k hk hb h3 => hn ((prS_iff I hc 12 (by omega)).mpr ⟨k, hk, hb, h3⟩)
  refine pz_up (fun n i => X1_painsOfCells_L4 fu poc (nI (x ^^^ shL s h c)) n (nI (prS s h w c x i)) (nI i)) 12 _ (fun n i hi => ?_) (fun n => ?_) fu 0 (by omega) (by omega)
  · have ha : prS s h w c x i ≠ 65535 := fun q => hn (by
      have := prS_N i q (12 - i)
      rw [show i + (12 - i) = 12 by omega] at this
      exact this)
    have hr := prS_rng (h := h) (w := w) (x := x) I hc i (by omega)
    have hp2 := prN_rng (s := s) I (h := h) (w := w) (cel_lt (k := i) hc hi)
    rw [X1_painsOfCells_L4]
    generalize X1_painsOfCells_L4 fu poc (nI (x ^^^ shL s h c)) n = rec
    rw [prS]
    by_cases hb : (x ^^^ shL s h c).testBit i = true
    · have hn2 := hall i hi hb
      have h0 := prN_0 hn2
      have hpi := hP i hi
      rw [h0] at hpi
      simp (disch := omega) only [hb, hpi, pz_b1, Bool.toNat_true, X1_painsOfCells_J28, pz_c0, pz_c1, pz_c2, pz_c3, pz_c4, pz_c5, pz_c6, pz_c7, pz_c8, pz_c9, pz_c10, pz_c11, pz_c12, pz_c13, pz_c14, pz_c15, pz_c16, pz_c17, pz_c18, pz_c19, pz_c20, pz_c21, pz_c22, pz_c23, pz_c24, pz_c25, pz_c26, pz_c27, pz_c28, pz_c29, pz_c30, pz_c31, pz_c32, pz_c33, pz_c34, pz_c35, pz_c36, pz_c42, pz_c48, pz_c57, pz_c59, pz_c60, pz_c63, pz_c64, pz_c66, pz_c96, pz_c97, pz_c99, pz_c100, pz_c122, pz_c127, pz_c128, pz_c200, pz_c255, pz_c299, pz_c300, pz_c336, pz_c354, pz_c585, pz_c666, pz_c708, pz_c1000, pz_c1170, pz_c4095, pz_c4096, pz_c4608, pz_c1000000, nI_add, pk_mul, pk_sub, pz_sub, pk_div, pz_or, pz_and, pz_xor, pz_n31, pz_shl, pz_shr, pz_eq, pz_le, pz_lt, pz_eqm, pz_meq, pz_mmeq, pz_lem, pz_mle, pz_ltm, pz_mlt, pz_mmle, pz_mmlt, pz_rd, pz_ck, pz_let, pz_cl, pz_bind, pz_gd, pz_zbb, eI_of, eI_N, pz_leT, pz_leF, pz_ltT, pz_ltF, pz_eqT, pz_eqF, if_pos, if_neg, if_true, if_false, ite_true, ite_false, pz_b0, pz_b1i, pz_bf, pz_bt, Bool.false_eq_true, Bool.true_eq_false, decide_true, decide_false, and_true, and_false, true_and, false_and, and_self, or_true, or_false, true_or, false_or, or_self, not_true_eq_false, not_false_eq_true, ne_eq, reduceIte, eq_self, upd_at]
    · rw [Bool.not_eq_true] at hb
      simp (disch := omega) only [hb, pz_b1, Bool.toNat_false, X1_painsOfCells_J28, pz_c0, pz_c1, pz_c2, pz_c3, pz_c4, pz_c5, pz_c6, pz_c7, pz_c8, pz_c9, pz_c10, pz_c11, pz_c12, pz_c13, pz_c14, pz_c15, pz_c16, pz_c17, pz_c18, pz_c19, pz_c20, pz_c21, pz_c22, pz_c23, pz_c24, pz_c25, pz_c26, pz_c27, pz_c28, pz_c29, pz_c30, pz_c31, pz_c32, pz_c33, pz_c34, pz_c35, pz_c36, pz_c42, pz_c48, pz_c57, pz_c59, pz_c60, pz_c63, pz_c64, pz_c66, pz_c96, pz_c97, pz_c99, pz_c100, pz_c122, pz_c127, pz_c128, pz_c200, pz_c255, pz_c299, pz_c300, pz_c336, pz_c354, pz_c585, pz_c666, pz_c708, pz_c1000, pz_c1170, pz_c4095, pz_c4096, pz_c4608, pz_c1000000, nI_add, pk_mul, pk_sub, pz_sub, pk_div, pz_or, pz_and, pz_xor, pz_n31, pz_shl, pz_shr, pz_eq, pz_le, pz_lt, pz_eqm, pz_meq, pz_mmeq, pz_lem, pz_mle, pz_ltm, pz_mlt, pz_mmle, pz_mmlt, pz_rd, pz_ck, pz_let, pz_cl, pz_bind, pz_gd, pz_zbb, eI_of, eI_N, pz_leT, pz_leF, pz_ltT, pz_ltF, pz_eqT, pz_eqF, if_pos, if_neg, if_true, if_false, ite_true, ite_false, pz_b0, pz_b1i, pz_bf, pz_bt, Bool.false_eq_true, Bool.true_eq_false, decide_true, decide_false, and_true, and_false, true_and, false_and, and_self, or_true, or_false, true_or, false_or, or_self, not_true_eq_false, not_false_eq_true, ne_eq, reduceIte, eq_self, upd_at]
  · rw [X1_painsOfCells_L4]
    generalize X1_painsOfCells_L4 fu poc (nI (x ^^^ shL s h c)) n = rec
    simp (disch := omega) only [pz_c0, pz_c1, pz_c2, pz_c3, pz_c4, pz_c5, pz_c6, pz_c7, pz_c8, pz_c9, pz_c10, pz_c11, pz_c12, pz_c13, pz_c14, pz_c15, pz_c16, pz_c17, pz_c18, pz_c19, pz_c20, pz_c21, pz_c22, pz_c23, pz_c24, pz_c25, pz_c26, pz_c27, pz_c28, pz_c29, pz_c30, pz_c31, pz_c32, pz_c33, pz_c34, pz_c35, pz_c36, pz_c42, pz_c48, pz_c57, pz_c59, pz_c60, pz_c63, pz_c64, pz_c66, pz_c96, pz_c97, pz_c99, pz_c100, pz_c122, pz_c127, pz_c128, pz_c200, pz_c255, pz_c299, pz_c300, pz_c336, pz_c354, pz_c585, pz_c666, pz_c708, pz_c1000, pz_c1170, pz_c4095, pz_c4096, pz_c4608, pz_c1000000, nI_add, pk_mul, pk_sub, pz_sub, pk_div, pz_or, pz_and, pz_xor, pz_n31, pz_shl, pz_shr, pz_eq, pz_le, pz_lt, pz_eqm, pz_meq, pz_mmeq, pz_lem, pz_mle, pz_ltm, pz_mlt, pz_mmle, pz_mmlt, pz_rd, pz_ck, pz_let, pz_cl, pz_bind, pz_gd, pz_zbb, eI_of, eI_N, pz_leT, pz_leF, pz_ltT, pz_ltF, pz_eqT, pz_eqF, if_pos, if_neg, if_true, if_false, ite_true, ite_false, pz_b0, pz_b1i, pz_bf, pz_bt, Bool.false_eq_true, Bool.true_eq_false, decide_true, decide_false, and_true, and_false, true_and, false_and, and_self, or_true, or_false, true_or, false_or, or_self, not_true_eq_false, not_false_eq_true, ne_eq, reduceIte, eq_self, upd_at]
end
