/-! THE TEXT OF A PLAN: type, clear -/
def TX (tl : Nat) (b : Nat → Nat) (len : Int32) (bytes : Nat → Int32) (ts : Int32) (text : Nat → Int32) : Prop := len = nI tl ∧ ts = nI tl ∧ tl ≤ 200 ∧ ∀ k, k < tl → b k < 256 ∧ bytes k = nI (b k) ∧ text k = nI (b k)
theorem byte_c {n k : Nat} (hn : n < 2 ^ 64) (hk : k < 8) : (((lN n).toUInt64 >>> ((nI (8 * k)).toInt64.toUInt64 &&& Int64.toUInt64 63)).toInt64 &&& (255 : Int64)) = lN ((n >>> (8 * k)) &&& 255) := by
  have e : (nI (8 * k)).toInt64.toUInt64 &&& Int64.toUInt64 63 = UInt64.ofNat (8 * k) := by
    have : ∀ k, k < 8 → (nI (8 * k)).toInt64.toUInt64 &&& Int64.toUInt64 63 = UInt64.ofNat (8 * k) := by decide +kernel
    exact this k hk
  rw [e, pz_ushr hn (by omega), pz_L255, pz_andL]
theorem b255 {i : Nat} : (255#64).getLsbD i = decide (i < 8) := by
  rcases Nat.lt_or_ge i 8 with h | h
  · have : ∀ i, i < 8 → (255#64).getLsbD i = true := by decide +kernel
    rw [this i h, decide_eq_true h]
  · rw [decide_eq_false (by omega)]
    show Nat.testBit 255 i = false
    exact Nat.testBit_lt_two_pow (Nat.lt_of_lt_of_le (show 255 < 2 ^ 8 by decide) (Nat.pow_le_pow_right (by decide) h))
theorem byte_eq (x : Int64) {k : Nat} (hk : k < 8) : (x >>> ((nI (8 * k)).toInt64 &&& 63)) &&& (255 : Int64) = ((x.toUInt64 >>> ((nI (8 * k)).toInt64.toUInt64 &&& Int64.toUInt64 63)).toInt64 &&& (255 : Int64)) := by
  have e1 : ∀ k, k < 8 → (((nI (8 * k)).toInt64 &&& 63).toBitVec.smod 64).toNat = 8 * k := by decide +kernel
  have e2 : ∀ k, k < 8 → ((((nI (8 * k)).toInt64.toUInt64 &&& Int64.toUInt64 63).toBitVec % 64)).toNat = 8 * k := by decide +kernel
  apply Int64.toBitVec_inj.1
  show (x.toBitVec.sshiftRight (((nI (8 * k)).toInt64 &&& 63).toBitVec.smod 64).toNat) &&& 255#64 = (x.toBitVec >>> (((nI (8 * k)).toInt64.toUInt64 &&& Int64.toUInt64 63).toBitVec % 64).toNat) &&& 255#64
  rw [e1 k hk, e2 k hk]
  apply BitVec.eq_of_getLsbD_eq
  intro i hi
  rw [BitVec.getLsbD_and, BitVec.getLsbD_and, b255, BitVec.getLsbD_sshiftRight, BitVec.getLsbD_ushiftRight]
  by_cases h : i < 8
  · rw [if_pos (by omega), decide_eq_false (show ¬ 64 ≤ i by omega)]
    rfl
  · rw [decide_eq_false h, Bool.and_false, Bool.and_false]
def dn : Nat → Int32
  | 0 => -nI 1
  | j + 1 => nI j
/-- the text with the first k of m bytes of n behind it -/
def tyB (tl : Nat) (b : Nat → Nat) (m n : Nat) (j : Nat) : Nat := if j < tl then b j else (n >>> (8 * (m - 1 - (j - tl)))) &&& 255
section
variable {fu : Nat} {s : Nat → Nat}
theorem ty_class {tl m n : Nat} {b : Nat → Nat} {bytes : Nat → Int32} (hf : 5000 ≤ fu) (hn : n < 2 ^ 64) (hm : m ≤ 8) (h : tl + m ≤ 200) (hb : ∀ k, k < tl → bytes k = nI (b k)) : ∃ a, X4_addBytes_L34 fu (lN n) fu (nI tl) bytes (dn m) = some (nI (tl + m), nI (tl + m), a) ∧ ∀ k, k < tl + m → a k = nI (tyB tl b m n k) := by
  have main := pz_rel (fun f k (a : Nat → Int32) => X4_addBytes_L34 fu (lN n) f (nI (tl + k)) a (dn (m - k))) (fun k a => ∀ j, j < tl + k → a j = nI (tyB tl b m n j)) m (fun r => ∃ a, r = (nI (tl + m), nI (tl + m), a) ∧ ∀ k, k < tl + m → a k = nI (tyB tl b m n k)) (fun f k a hk ha => ?_) (fun f a ha => ?_) fu 0 bytes (by omega) (by omega) (fun j hj => by rw [tyB, if_pos (by omega), hb j (by omega)])
  · obtain ⟨r, e1, a, e2, e3⟩ := main
    exact ⟨a, by rw [← e2]; exact e1, e3⟩
  · right
    refine ⟨upd a (tl + k) (nI ((n >>> (8 * (m - 1 - k))) &&& 255)), fun j hj => ?_, ?_⟩
    · by_cases g : j = tl + k
      · rw [g, pk_us, tyB, if_neg (by omega), Nat.add_sub_cancel_left]
      · rw [pk_un g, ha j (by omega)]
    · try simp only
      rw [show m - k = (m - 1 - k) + 1 by omega, dn, X4_addBytes_L34]
      generalize X4_addBytes_L34 fu (lN n) f = rec
      have h8 : (n >>> (8 * (m - 1 - k))) &&& 255 < 2 ^ 8 := Nat.and_lt_two_pow (n := 8) _ (by decide)
      have ed : nI (m - 1 - k) + -1 = dn (m - (k + 1)) := by
        rcases (show m - 1 - k = 0 ∨ 0 < m - 1 - k by omega) with g | g
        · rw [g, show m - (k + 1) = 0 by omega]; rfl
        · rw [pz_c1, pz_add1 g, show m - (k + 1) = (m - 1 - k - 1) + 1 by omega, dn]
      rw [if_neg (nI_pos (by omega)), pz_ck _ (by omega) (by omega), pz_c8, pk_mul, byte_c hn (by omega), pz_cl (by omega), lN_i, nI_1, ed]
      rfl
  · try simp only
    rw [Nat.sub_self, dn, X4_addBytes_L34, if_pos (by decide)]
    exact ⟨_, rfl, a, rfl, ha⟩
theorem ty_ref {tl m n : Nat} {b : Nat → Nat} {rf text : Nat → Int32} (hf : 5000 ≤ fu) (hn : n < 2 ^ 64) (hm : m ≤ 8) (h : tl + m ≤ 200) (hb : ∀ k, k < tl → text k = nI (b k)) : ∃ a, X8_type_L41 fu rf (lN n) fu (nI tl) text (dn m) = some (nI (tl + m), nI (tl + m), rf, a) ∧ ∀ k, k < tl + m → a k = nI (tyB tl b m n k) := by
  have main := pz_rel (fun f k (a : Nat → Int32) => X8_type_L41 fu rf (lN n) f (nI (tl + k)) a (dn (m - k))) (fun k a => ∀ j, j < tl + k → a j = nI (tyB tl b m n j)) m (fun r => ∃ a, r = (nI (tl + m), nI (tl + m), rf, a) ∧ ∀ k, k < tl + m → a k = nI (tyB tl b m n k)) (fun f k a hk ha => ?_) (fun f a ha => ?_) fu 0 text (by omega) (by omega) (fun j hj => by rw [tyB, if_pos (by omega), hb j (by omega)])
  · obtain ⟨r, e1, a, e2, e3⟩ := main
    exact ⟨a, by rw [← e2]; exact e1, e3⟩
  · right
    refine ⟨upd a (tl + k) (nI ((n >>> (8 * (m - 1 - k))) &&& 255)), fun j hj => ?_, ?_⟩
    · by_cases g : j = tl + k
      · rw [g, pk_us, tyB, if_neg (by omega), Nat.add_sub_cancel_left]
      · rw [pk_un g, ha j (by omega)]
    · try simp only
      rw [show m - k = (m - 1 - k) + 1 by omega, dn, X8_type_L41]
      generalize X8_type_L41 fu rf (lN n) f = rec
      have h8 : (n >>> (8 * (m - 1 - k))) &&& 255 < 2 ^ 8 := Nat.and_lt_two_pow (n := 8) _ (by decide)
      have ed : nI (m - 1 - k) + -1 = dn (m - (k + 1)) := by
        rcases (show m - 1 - k = 0 ∨ 0 < m - 1 - k by omega) with g | g
        · rw [g, show m - (k + 1) = 0 by omega]; rfl
        · rw [pz_c1, pz_add1 g, show m - (k + 1) = (m - 1 - k - 1) + 1 by omega, dn]
      rw [if_neg (nI_pos (by omega)), pz_ck _ (by omega) (by omega), pz_c8, pk_mul, byte_eq _ (by omega), byte_c hn (by omega), pz_cl (by omega), lN_i, nI_1, ed]
      rfl
  · try simp only
    rw [Nat.sub_self, dn, X8_type_L41, if_pos (by decide)]
    exact ⟨_, rfl, a, rfl, ha⟩
theorem q_type {q_wall_wide : Int32} {q_wall_high : Int32} {q_wall_slackNow : Int32} {q_wall_tenants : Int32} {q_wall_letters : Int32} {q_wall_readings : Int32} {q_wall_kinds : Nat → Int32} {q_wall_painOf : Nat → Int32} {q_wall_payFor : Nat → Int32} {q_wall_refused : Nat → Int32} {q_wall_owned : Nat → Int64} {q_wall_litIn : Nat → Int64} {q_wall_shapes : Nat → Int32} {q_wall_readAt : Nat → Int32} {q_wall_meant : Nat → Int32} {q_wall_readSo : Nat → Int32} {u_st u_refused u_ones : Nat → Int32} {q_wereBad q_wereNo q_wereFull : Int32} {q_plan_length : Int32} {q_plan_bytes : Nat → Int32} {u_textSize : Int32} {u_text : Nat → Int32} (v1 : Int64) (v3 : Int32) (hf : 5000 ≤ fu) (I : Iv s) (W : WR q_wall_wide q_wall_high q_wall_slackNow q_wall_tenants q_wall_letters q_wall_readings q_wall_kinds q_wall_painOf q_wall_payFor q_wall_refused q_wall_owned q_wall_litIn q_wall_shapes q_wall_readAt q_wall_meant q_wall_readSo s) (R : SR u_st s) (hS : SS u_refused q_wereBad q_wereNo q_wereFull) {tl : Nat} {b : Nat → Nat} (X : TX tl b q_plan_length q_plan_bytes u_textSize u_text) : ∃ r u tl2 b2, f_X7_type fu q_wereBad q_wereNo q_wereFull q_plan_length q_plan_bytes v1 v3 = some r ∧ f_X8_type fu u_textSize u_refused u_text v1 v3 = some u ∧ r.1 = u.1 ∧ SS u.2.2.1 r.2.1 r.2.2.1 r.2.2.2.1 ∧ TX tl2 b2 r.2.2.2.2.1 r.2.2.2.2.2 u.2.1 u.2.2.2 := by
  have X0 := X
  obtain ⟨x1, x2, x3, x4⟩ := X
  rw [f_X7_type, f_X8_type, f_X4_addBytes, show f_X8_in fu v3 1 8 = _ from x8_in (lo := 1) (hi := 8) (by decide) (by decide) v3, pz_bind]
  have bad : ∃ r u tl2 b2, ((X4_addBytes_J11 fu q_plan_length q_plan_bytes).bind fun t7 => (f_X7_counted fu q_wereBad q_wereNo q_wereFull t7.1).bind fun t10 => some (t10.1, t10.2.1, t10.2.2.1, t10.2.2.2, t7.2.1, t7.2.2)) = some r ∧ ((f_X8_told fu u_refused (-2)).bind fun t13 => some (t13.1, u_textSize, t13.2, u_text)) = some u ∧ r.1 = u.1 ∧ SS u.2.2.1 r.2.1 r.2.2.1 r.2.2.2.1 ∧ TX tl2 b2 r.2.2.2.2.1 r.2.2.2.2.2 u.2.1 u.2.2.2 := by
    rw [X4_addBytes_J11, pz_bind]
    dsimp only
    rw [c_bad, pz_bind, t_bad, pz_bind]
    exact ⟨_, _, tl, b, rfl, rfl, rfl, SS_bad hS, X0⟩
  rcases rngI v3 (lo := 1) (hi := 8) (by decide) (by decide) with ⟨a1, a2, a3, -⟩ | ⟨a1, a2⟩
  · rw [decide_eq_true a1, if_neg b_t, if_neg (show ¬ v3 < 1 from a2), if_pos (show v3 ≤ 8 from a3)]
    have ev := vN_e (v := v3) (by omega)
    generalize vN v3 = m at *
    subst ev
    subst x1
    subst x2
    obtain ⟨n, hn, rfl⟩ := pz_ofL v1
    rw [nI_add]
    by_cases g : tl + m ≤ 200
    · rw [if_pos (by rw [pz_c200, pz_le (by omega) (by decide)]; exact g), if_pos (by rw [pz_c200, pz_le (by omega) (by decide)]; exact g)]
      have ed : nI m - 1 = dn m := by
        obtain ⟨k, rfl⟩ : ∃ k, m = k + 1 := ⟨m - 1, by omega⟩
        rw [pz_c1, pk_sub (by omega), Nat.add_sub_cancel, dn]
      obtain ⟨aa, e1, e2⟩ := ty_class (fu := fu) hf hn a1.2 g (fun k hk => (x4 k hk).2.1)
      obtain ⟨ab, f1, f2⟩ := ty_ref (fu := fu) (rf := u_refused) hf hn a1.2 g (fun k hk => (x4 k hk).2.2)
      have ok : (∃ k, k < 2 ^ 31 ∧ nI (tl + m) = nI k) ∨ nI (tl + m) = -nI 1 := Or.inl ⟨tl + m, by omega, rfl⟩
      rw [ed, e1, f1, pz_bind]
      dsimp only
      rw [c_ok ok, pz_bind]
      refine ⟨_, _, tl + m, tyB tl b m n, rfl, rfl, rfl, hS, rfl, rfl, g, fun k hk => ⟨?_, e2 k hk, f2 k hk⟩⟩
      rw [tyB]
      split
      · exact (x4 k (by omega)).1
      · exact Nat.and_lt_two_pow (n := 8) _ (by decide)
    · rw [if_neg (by rw [pz_c200, pz_le (by omega) (by decide)]; exact g), if_neg (by rw [pz_c200, pz_le (by omega) (by decide)]; exact g), pz_bind]
      dsimp only
      rw [c_full, pz_bind, t_full, pz_bind]
      exact ⟨_, _, tl, b, rfl, rfl, rfl, SS_full hS, X0⟩
  · rw [decide_eq_false a1, if_pos b_f]
    rcases a2 with g | ⟨g1, g2, -⟩
    · rw [if_pos (show v3 < 1 from g)]
      exact bad
    · rw [if_neg (show ¬ v3 < 1 from g1), if_neg (show ¬ v3 ≤ 8 from g2)]
      exact bad
theorem q_clear {len : Int32} {ts : Int32} {bytes text : Nat → Int32} {tl : Nat} {b : Nat → Nat} (X : TX tl b len bytes ts text) : f_X7_clear fu len = some (nI tl, nI 0) ∧ f_X8_clear fu ts = some (nI tl, nI 0) ∧ TX 0 b (nI 0) bytes (nI 0) text := by
  obtain ⟨x1, x2, -, -⟩ := X
  rw [f_X7_clear, f_X4_empty, pz_bind, f_X8_clear, x1, x2]
  exact ⟨rfl, rfl, rfl, rfl, Nat.zero_le _, fun k hk => absurd hk (Nat.not_lt_zero k)⟩
end
