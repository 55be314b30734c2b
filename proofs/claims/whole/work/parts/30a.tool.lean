/-! PURE TOOLS: numbers as nI of naturals, long sets as lN of naturals -/
theorem pz_c0 : (0 : Int32) = nI 0 := rfl
theorem pz_c1 : (1 : Int32) = nI 1 := rfl
theorem pz_c2 : (2 : Int32) = nI 2 := rfl
theorem pz_c3 : (3 : Int32) = nI 3 := rfl
theorem pz_c4 : (4 : Int32) = nI 4 := rfl
theorem pz_c5 : (5 : Int32) = nI 5 := rfl
theorem pz_c6 : (6 : Int32) = nI 6 := rfl
theorem pz_c7 : (7 : Int32) = nI 7 := rfl
theorem pz_c8 : (8 : Int32) = nI 8 := rfl
theorem pz_c9 : (9 : Int32) = nI 9 := rfl
theorem pz_c10 : (10 : Int32) = nI 10 := rfl
theorem pz_c11 : (11 : Int32) = nI 11 := rfl
theorem pz_c12 : (12 : Int32) = nI 12 := rfl
theorem pz_c13 : (13 : Int32) = nI 13 := rfl
theorem pz_c14 : (14 : Int32) = nI 14 := rfl
theorem pz_c15 : (15 : Int32) = nI 15 := rfl
theorem pz_c16 : (16 : Int32) = nI 16 := rfl
theorem pz_c17 : (17 : Int32) = nI 17 := rfl
theorem pz_c18 : (18 : Int32) = nI 18 := rfl
theorem pz_c19 : (19 : Int32) = nI 19 := rfl
theorem pz_c20 : (20 : Int32) = nI 20 := rfl
theorem pz_c21 : (21 : Int32) = nI 21 := rfl
theorem pz_c22 : (22 : Int32) = nI 22 := rfl
theorem pz_c23 : (23 : Int32) = nI 23 := rfl
theorem pz_c24 : (24 : Int32) = nI 24 := rfl
theorem pz_c25 : (25 : Int32) = nI 25 := rfl
theorem pz_c26 : (26 : Int32) = nI 26 := rfl
theorem pz_c27 : (27 : Int32) = nI 27 := rfl
theorem pz_c28 : (28 : Int32) = nI 28 := rfl
theorem pz_c29 : (29 : Int32) = nI 29 := rfl
theorem pz_c30 : (30 : Int32) = nI 30 := rfl
theorem pz_c31 : (31 : Int32) = nI 31 := rfl
theorem pz_c32 : (32 : Int32) = nI 32 := rfl
theorem pz_c33 : (33 : Int32) = nI 33 := rfl
theorem pz_c34 : (34 : Int32) = nI 34 := rfl
theorem pz_c35 : (35 : Int32) = nI 35 := rfl
theorem pz_c36 : (36 : Int32) = nI 36 := rfl
theorem pz_c42 : (42 : Int32) = nI 42 := rfl
theorem pz_c48 : (48 : Int32) = nI 48 := rfl
theorem pz_c57 : (57 : Int32) = nI 57 := rfl
theorem pz_c59 : (59 : Int32) = nI 59 := rfl
theorem pz_c60 : (60 : Int32) = nI 60 := rfl
theorem pz_c63 : (63 : Int32) = nI 63 := rfl
theorem pz_c64 : (64 : Int32) = nI 64 := rfl
theorem pz_c66 : (66 : Int32) = nI 66 := rfl
theorem pz_c96 : (96 : Int32) = nI 96 := rfl
theorem pz_c97 : (97 : Int32) = nI 97 := rfl
theorem pz_c99 : (99 : Int32) = nI 99 := rfl
theorem pz_c100 : (100 : Int32) = nI 100 := rfl
theorem pz_c122 : (122 : Int32) = nI 122 := rfl
theorem pz_c127 : (127 : Int32) = nI 127 := rfl
theorem pz_c128 : (128 : Int32) = nI 128 := rfl
theorem pz_c200 : (200 : Int32) = nI 200 := rfl
theorem pz_c255 : (255 : Int32) = nI 255 := rfl
theorem pz_c299 : (299 : Int32) = nI 299 := rfl
theorem pz_c300 : (300 : Int32) = nI 300 := rfl
theorem pz_c336 : (336 : Int32) = nI 336 := rfl
theorem pz_c354 : (354 : Int32) = nI 354 := rfl
theorem pz_c585 : (585 : Int32) = nI 585 := rfl
theorem pz_c666 : (666 : Int32) = nI 666 := rfl
theorem pz_c708 : (708 : Int32) = nI 708 := rfl
theorem pz_c1000 : (1000 : Int32) = nI 1000 := rfl
theorem pz_c1170 : (1170 : Int32) = nI 1170 := rfl
theorem pz_c4095 : (4095 : Int32) = nI 4095 := rfl
theorem pz_c4096 : (4096 : Int32) = nI 4096 := rfl
theorem pz_c4608 : (4608 : Int32) = nI 4608 := rfl
theorem pz_c1000000 : (1000000 : Int32) = nI 1000000 := rfl
theorem pz_L0 : (0 : Int64) = lN 0 := rfl
theorem pz_L1 : (1 : Int64) = lN 1 := rfl
theorem pz_L7 : (7 : Int64) = lN 7 := rfl
theorem pz_L31 : (31 : Int64) = lN 31 := rfl
theorem pz_L63 : (63 : Int64) = lN 63 := rfl
theorem pz_L255 : (255 : Int64) = lN 255 := rfl
theorem pz_L4095 : (4095 : Int64) = lN 4095 := rfl
theorem pz_or (a b : Nat) : nI a ||| nI b = nI (a ||| b) := by
  apply Int32.toBitVec_inj.1
  show BitVec.ofNat 32 a ||| BitVec.ofNat 32 b = BitVec.ofNat 32 (a ||| b)
  apply BitVec.eq_of_getLsbD_eq
  intro i hi
  simp [hi]
theorem pz_and (a b : Nat) : nI a &&& nI b = nI (a &&& b) := by
  apply Int32.toBitVec_inj.1
  show BitVec.ofNat 32 a &&& BitVec.ofNat 32 b = BitVec.ofNat 32 (a &&& b)
  apply BitVec.eq_of_getLsbD_eq
  intro i hi
  simp [hi]
theorem pz_xor (a b : Nat) : nI a ^^^ nI b = nI (a ^^^ b) := by
  apply Int32.toBitVec_inj.1
  show BitVec.ofNat 32 a ^^^ BitVec.ofNat 32 b = BitVec.ofNat 32 (a ^^^ b)
  apply BitVec.eq_of_getLsbD_eq
  intro i hi
  simp [hi]
theorem pz_orL (a b : Nat) : lN a ||| lN b = lN (a ||| b) := by
  apply Int64.toBitVec_inj.1
  show BitVec.ofNat 64 a ||| BitVec.ofNat 64 b = BitVec.ofNat 64 (a ||| b)
  apply BitVec.eq_of_getLsbD_eq
  intro i hi
  simp [hi]
theorem pz_andL (a b : Nat) : lN a &&& lN b = lN (a &&& b) := by
  apply Int64.toBitVec_inj.1
  show BitVec.ofNat 64 a &&& BitVec.ofNat 64 b = BitVec.ofNat 64 (a &&& b)
  apply BitVec.eq_of_getLsbD_eq
  intro i hi
  simp [hi]
theorem pz_xorL (a b : Nat) : lN a ^^^ lN b = lN (a ^^^ b) := by
  apply Int64.toBitVec_inj.1
  show BitVec.ofNat 64 a ^^^ BitVec.ofNat 64 b = BitVec.ofNat 64 (a ^^^ b)
  apply BitVec.eq_of_getLsbD_eq
  intro i hi
  simp [hi]
theorem pz_mI {b : Nat} (h : b ≤ 2 ^ 31) (h0 : 0 < b) : (-nI b).toInt = -(b : Int) := by
  rw [Int32.toInt_neg]
  rcases Nat.lt_or_ge b (2 ^ 31) with h1 | h1
  · rw [nI_toInt h1, Int.bmod_eq_of_le (by omega) (by omega)]
  · obtain rfl : b = 2147483648 := by omega
    decide +kernel
theorem pz_eq {a b : Nat} (ha : a < 2 ^ 31) (hb : b < 2 ^ 31) : (nI a = nI b) = (a = b) := propext (nI_eq ha hb)
theorem pz_le {a b : Nat} (ha : a < 2 ^ 31) (hb : b < 2 ^ 31) : (nI a ≤ nI b) = (a ≤ b) := propext (nI_leI ha hb)
theorem pz_lt {a b : Nat} (ha : a < 2 ^ 31) (hb : b < 2 ^ 31) : (nI a < nI b) = (a < b) := propext (nI_ltI ha hb)
theorem pz_eqm {a b : Nat} (ha : a < 2 ^ 31) (hb : b ≤ 2 ^ 31) (h0 : 0 < b) : (nI a = -nI b) = False := by
  apply eq_false
  intro h
  have h2 := congrArg Int32.toInt h
  rw [nI_toInt ha, pz_mI hb h0] at h2
  omega
theorem pz_meq {a b : Nat} (ha : a < 2 ^ 31) (hb : b ≤ 2 ^ 31) (h0 : 0 < b) : (-nI b = nI a) = False := by
  apply eq_false
  intro h
  exact of_eq_false (pz_eqm ha hb h0) h.symm
theorem pz_mmeq {a b : Nat} (ha : a ≤ 2 ^ 31) (hb : b ≤ 2 ^ 31) (h0 : 0 < a) (h1 : 0 < b) : (-nI a = -nI b) = (a = b) := by
  apply propext
  constructor
  · intro h
    have h2 := congrArg Int32.toInt h
    rw [pz_mI ha h0, pz_mI hb h1] at h2
    omega
  · rintro rfl; rfl
theorem pz_lem {a b : Nat} (ha : a < 2 ^ 31) (hb : b ≤ 2 ^ 31) (h0 : 0 < b) : (nI a ≤ -nI b) = False := by
  apply eq_false
  rw [Int32.le_iff_toInt_le, nI_toInt ha, pz_mI hb h0]
  omega
theorem pz_mle {a b : Nat} (ha : a < 2 ^ 31) (hb : b ≤ 2 ^ 31) (h0 : 0 < b) : (-nI b ≤ nI a) = True := by
  apply eq_true
  rw [Int32.le_iff_toInt_le, nI_toInt ha, pz_mI hb h0]
  omega
theorem pz_ltm {a b : Nat} (ha : a < 2 ^ 31) (hb : b ≤ 2 ^ 31) (h0 : 0 < b) : (nI a < -nI b) = False := by
  apply eq_false
  rw [Int32.lt_iff_toInt_lt, nI_toInt ha, pz_mI hb h0]
  omega
theorem pz_mlt {a b : Nat} (ha : a < 2 ^ 31) (hb : b ≤ 2 ^ 31) (h0 : 0 < b) : (-nI b < nI a) = True := by
  apply eq_true
  rw [Int32.lt_iff_toInt_lt, nI_toInt ha, pz_mI hb h0]
  omega
theorem pz_mmle {a b : Nat} (ha : a ≤ 2 ^ 31) (hb : b ≤ 2 ^ 31) (h0 : 0 < a) (h1 : 0 < b) : (-nI a ≤ -nI b) = (b ≤ a) := by
  apply propext
  rw [Int32.le_iff_toInt_le, pz_mI ha h0, pz_mI hb h1]
  omega
theorem pz_mmlt {a b : Nat} (ha : a ≤ 2 ^ 31) (hb : b ≤ 2 ^ 31) (h0 : 0 < a) (h1 : 0 < b) : (-nI a < -nI b) = (b < a) := by
  apply propext
  rw [Int32.lt_iff_toInt_lt, pz_mI ha h0, pz_mI hb h1]
  omega
theorem pz_neg (n : Nat) : nI (n + 1) + -nI 1 = nI n := pk_m1 n
theorem pz_sub (a b : Nat) : nI a + -nI b = nI a - nI b := (Int32.sub_eq_add_neg _ _).symm
theorem pz_add1 {a : Nat} (h : 0 < a) : nI a + -nI 1 = nI (a - 1) := by
  rw [pz_sub, pk_sub h]
theorem pz_msub (a b : Nat) : -nI a - nI b = -nI (a + b) := by
  rw [← nI_add, Int32.neg_add]
theorem pz_cases (v : Int32) : (∃ a, a < 2 ^ 31 ∧ v = nI a) ∨ (∃ b, 0 < b ∧ b ≤ 2 ^ 31 ∧ v = -nI b) := by
  by_cases h : v.toInt < 0
  · right
    have h2 := Int32.le_toInt v
    refine ⟨v.toInt.natAbs, by omega, by omega, ?_⟩
    apply Int32.toInt_inj.1
    rw [pz_mI (by omega) (by omega)]
    omega
  · left
    have h2 := Int32.toInt_lt v
    refine ⟨v.toInt.toNat, by omega, ?_⟩
    apply Int32.toInt_inj.1
    rw [nI_toInt (by omega)]
    omega
theorem pz_shl (a : Nat) {k : Nat} (hk : k < 32) : nI a <<< (nI k) = nI (a <<< k) := by
  apply Int32.toBitVec_inj.1
  have h : ∀ k, k < 32 → ((nI k).toBitVec.smod 32) = BitVec.ofNat 32 k := by decide +kernel
  rw [Int32.toBitVec_shiftLeft, h k hk]
  show BitVec.ofNat 32 a <<< BitVec.ofNat 32 k = BitVec.ofNat 32 (a <<< k)
  apply BitVec.eq_of_toNat_eq
  simp only [BitVec.shiftLeft_eq', BitVec.toNat_shiftLeft, BitVec.toNat_ofNat]
  rw [Nat.mod_eq_of_lt (show k < 2 ^ 32 by omega), Nat.shiftLeft_eq, Nat.shiftLeft_eq, Nat.mod_mul_mod]
theorem pz_shr {a k : Nat} (ha : a < 2 ^ 31) (hk : k < 32) : nI a >>> (nI k) = nI (a >>> k) := by
  have h : ∀ k, k < 32 → ((nI k).toBitVec.smod 32).toNat = k := by decide +kernel
  rw [pk_shrN ha _ k (h k hk), Nat.shiftRight_eq_div_pow]
theorem pz_31 {k : Nat} (hk : k < 32) : nI k &&& nI 31 = nI k := by
  rw [pz_and]
  have : ∀ k, k < 32 → k &&& 31 = k := by decide +kernel
  rw [this k hk]
theorem pz_63 {k : Nat} (hk : k < 64) : (nI k).toInt64 &&& lN 63 = lN k := by
  have : ∀ k, k < 64 → (nI k).toInt64 &&& lN 63 = lN k := by decide +kernel
  exact this k hk
theorem pz_u63 {k : Nat} (hk : k < 64) : (lN k).toUInt64 &&& (lN 63).toUInt64 = UInt64.ofNat k := by
  have : ∀ k, k < 64 → (lN k).toUInt64 &&& (lN 63).toUInt64 = UInt64.ofNat k := by decide +kernel
  exact this k hk
theorem pz_tb (n : Nat) : (lN n).toBitVec = BitVec.ofNat 64 n := rfl
theorem pz_ushr {n k : Nat} (hn : n < 2 ^ 64) (hk : k < 64) : ((lN n).toUInt64 >>> UInt64.ofNat k).toInt64 = lN (n >>> k) := by
  apply Int64.toBitVec_inj.1
  apply BitVec.eq_of_toNat_eq
  show ((lN n).toUInt64 >>> UInt64.ofNat k).toNat = (BitVec.ofNat 64 _).toNat
  have h1 : (UInt64.ofNat k).toNat = k := by
    show (BitVec.ofNat 64 k).toNat = k
    rw [BitVec.toNat_ofNat, Nat.mod_eq_of_lt (by omega)]
  have h2 : (lN n).toUInt64.toNat = n := by
    show (BitVec.ofNat 64 n).toNat = n
    rw [BitVec.toNat_ofNat, Nat.mod_eq_of_lt hn]
  have h3 : n >>> k ≤ n := by rw [Nat.shiftRight_eq_div_pow]; exact Nat.div_le_self _ _
  rw [UInt64.toNat_shiftRight, h1, h2, Nat.mod_eq_of_lt hk, BitVec.toNat_ofNat, Nat.mod_eq_of_lt (by omega)]
theorem pz_shlL (n : Nat) {k : Nat} (hk : k < 64) : lN n <<< lN k = lN (n <<< k) := by
  have h : ∀ k, k < 64 → (BitVec.ofNat 64 k).smod 64 = BitVec.ofNat 64 k := by decide +kernel
  apply Int64.toBitVec_inj.1
  rw [Int64.toBitVec_shiftLeft, pz_tb, pz_tb, pz_tb, h k hk]
  apply BitVec.eq_of_toNat_eq
  simp only [BitVec.shiftLeft_eq', BitVec.toNat_shiftLeft, BitVec.toNat_ofNat]
  rw [Nat.mod_eq_of_lt (show k < 2 ^ 64 by omega), Nat.shiftLeft_eq, Nat.shiftLeft_eq, Nat.mod_mul_mod]
theorem pz_mod (n : Nat) : lN n = lN (n % 2 ^ 64) := by
  apply Int64.toBitVec_inj.1
  rw [pz_tb, pz_tb]; apply BitVec.eq_of_toNat_eq; rw [BitVec.toNat_ofNat, BitVec.toNat_ofNat, Nat.mod_mod]
theorem pz_ofL (x : Int64) : ∃ n, n < 2 ^ 64 ∧ x = lN n := by
  refine ⟨x.toBitVec.toNat, x.toBitVec.isLt, ?_⟩
  apply Int64.toBitVec_inj.1
  rw [pz_tb, BitVec.ofNat_toNat, BitVec.setWidth_eq]
theorem pz_eqL {a b : Nat} (ha : a < 2 ^ 63) (hb : b < 2 ^ 63) : (lN a = lN b) = (a = b) := propext (pk_lEQ ha hb)
theorem pz_cl {n : Nat} (h : n < 2 ^ 31) : (nI n).toNatClampNeg = n := nI_clamp h
theorem pz_ib {k n : Nat} (h : k < n) (hk : k < 2 ^ 31) : mm_ib (nI k) n = true := by
  simp [mm_ib, nI_clamp hk, nI_pos hk, h]
theorem pz_rd {α β : Type} (f : Nat → α) {n k : Nat} (K : α → Option β) (h : k < n) (hk : k < 2 ^ 31) : mm_rd f n (nI k) K = K (f k) := by
  rw [mm_rd, if_pos (pz_ib h hk), nI_clamp hk]
theorem pz_ck {β : Type} {n k : Nat} (K : Option β) (h : k < n) (hk : k < 2 ^ 31) : mm_ck n (nI k) K = K := by
  rw [mm_ck, if_pos (pz_ib h hk)]
theorem pz_let {α β : Type} (e : α) (f : α → Option β) : mm_let e f = f e := rfl
theorem pz_gd {β : Type} (K : Option β) : mm_gd true K = K := rfl
theorem pz_zb0 : mm_zb (nI 0) = true := by decide +kernel
theorem pz_zb1 : mm_zb (nI 1) = true := by decide +kernel
theorem pz_bind {α β : Type} (a : α) (f : α → Option β) : (some a).bind f = f a := rfl
theorem pz_up {ρ : Type} (W : Nat → Nat → Option ρ) (e : Nat) (r : Option ρ) (hs : ∀ n i, i < e → W (n + 1) i = W n (i + 1)) (hx : ∀ n, W (n + 1) e = r) : ∀ n i, i ≤ e → e - i < n → W n i = r := by
  intro n
  induction n with
  | zero => intro i h1 h2; omega
  | succ n ih =>
    intro i h1 h2
    rcases Nat.lt_or_ge i e with h | h
    · rw [hs n i h]; exact ih (i + 1) (by omega) (by omega)
    · obtain rfl : i = e := by omega
      exact hx n
theorem pz_upE {ρ : Type} (W : Nat → Nat → Option ρ) (e : Nat) (r : Option ρ) (P : Nat → Prop) (hs : ∀ n i, i < e → P i → W (n + 1) i = r ∨ (P (i + 1) ∧ W (n + 1) i = W n (i + 1))) (hx : ∀ n, P e → W (n + 1) e = r) : ∀ n i, i ≤ e → e - i < n → P i → W n i = r := by
  intro n
  induction n with
  | zero => intro i h1 h2; omega
  | succ n ih =>
    intro i h1 h2 hp
    rcases Nat.lt_or_ge i e with h | h
    · rcases hs n i h hp with h3 | ⟨h3, h4⟩
      · exact h3
      · rw [h4]; exact ih (i + 1) (by omega) (by omega) h3
    · obtain rfl : i = e := by omega
      exact hx n hp
theorem pz_dn {ρ : Type} (W : Nat → Nat → Option ρ) (r : Option ρ) (hs : ∀ n i, W (n + 1) (i + 1) = W n i) (hx : ∀ n, W (n + 1) 0 = r) : ∀ n i, i < n → W n i = r := by
  intro n
  induction n with
  | zero => intro i h; omega
  | succ n ih =>
    intro i h
    cases i with
    | zero => exact hx n
    | succ i => rw [hs n i]; exact ih i (by omega)
/-! numbers made of bits -/
def mkN (p : Nat → Bool) : Nat → Nat
  | 0 => 0
  | n + 1 => mkN p n ||| ((p n).toNat <<< n)
theorem mkN_lt (p : Nat → Bool) : ∀ n, mkN p n < 2 ^ n
  | 0 => by simp [mkN]
  | n + 1 => by
    rw [mkN]
    apply Nat.or_lt_two_pow
    · exact Nat.lt_of_lt_of_le (mkN_lt p n) (Nat.pow_le_pow_right (by decide) (by omega))
    · rw [Nat.shiftLeft_eq, Nat.pow_succ, Nat.mul_comm]
      have h : (p n).toNat < 2 := by cases p n <;> decide
      exact Nat.mul_lt_mul_of_pos_left h (Nat.two_pow_pos n)
theorem mkN_bit (p : Nat → Bool) : ∀ n i, (mkN p n).testBit i = (decide (i < n) && p i)
  | 0, i => by simp [mkN]
  | n + 1, i => by
    rw [mkN, Nat.testBit_or, mkN_bit p n i, Nat.testBit_shiftLeft]
    rcases Nat.lt_trichotomy i n with h | h | h
    · simp [h, show ¬ n ≤ i by omega, show i < n + 1 by omega]
    · subst h
      cases p i <;> simp
    · have h2 : (p n).toNat.testBit (i - n) = false := by
        apply Nat.testBit_lt_two_pow
        have h3 : (p n).toNat < 2 := by cases p n <;> decide
        have h4 : 2 ^ 1 ≤ 2 ^ (i - n) := Nat.pow_le_pow_right (by decide) (by omega)
        omega
      simp [h2, show ¬ i < n by omega, show ¬ i < n + 1 by omega]
theorem mkN_cong {p q : Nat → Bool} : ∀ {n : Nat}, (∀ k, k < n → p k = q k) → mkN p n = mkN q n
  | 0, _ => rfl
  | n + 1, h => by rw [mkN, mkN, mkN_cong (fun k hk => h k (by omega)), h n (by omega)]
theorem mkN_eq {m n : Nat} {p : Nat → Bool} (h : m < 2 ^ n) (hb : ∀ i, i < n → m.testBit i = p i) : m = mkN p n := by
  apply Nat.eq_of_testBit_eq
  intro i
  rw [mkN_bit]
  rcases Nat.lt_or_ge i n with h1 | h1
  · simp [h1, hb i h1]
  · rw [Nat.testBit_lt_two_pow (Nat.lt_of_lt_of_le h (Nat.pow_le_pow_right (by decide) h1))]
    simp [show ¬ i < n by omega]
theorem pz_b1 {n k : Nat} : (n >>> k) &&& 1 = (n.testBit k).toNat := by
  rw [Nat.and_one_is_mod, Nat.testBit_eq_decide_div_mod_eq, Nat.shiftRight_eq_div_pow]
  rcases Nat.mod_two_eq_zero_or_one (n / 2 ^ k) with h | h <;> simp [h]
theorem pz_n31 {k : Nat} (hk : k < 32) : k &&& 31 = k := by
  have : ∀ k, k < 32 → k &&& 31 = k := by decide +kernel
  exact this k hk
theorem pz_n63 {k : Nat} (hk : k < 64) : k &&& 63 = k := by
  have : ∀ k, k < 64 → k &&& 63 = k := by decide +kernel
  exact this k hk
theorem pz_cmp {a b : Nat} (ha : a < 2 ^ 63) (hb : b < 2 ^ 63) : (lg_cmp (lN a) (lN b) = nI 0) = (a = b) := by
  apply propext
  unfold lg_cmp
  rw [← pz_c0]
  rcases Nat.lt_trichotomy a b with h | h | h
  · have h1 : ¬ lN a > lN b := by rw [gt_iff_lt, pk_lLT hb ha]; omega
    have h2 : ¬ lN a = lN b := by rw [pk_lEQ ha hb]; omega
    rw [if_neg h1, if_neg h2]
    constructor
    · intro h; exact absurd h (by decide)
    · omega
  · subst h
    have h1 : ¬ lN a > lN a := by rw [gt_iff_lt, pk_lLT hb ha]; omega
    rw [if_neg h1, if_pos rfl]
    simp
  · have h1 : lN a > lN b := by rw [gt_iff_lt, pk_lLT hb ha]; omega
    rw [if_pos h1]
    constructor
    · intro h; exact absurd h (by decide)
    · omega
/-! numbers that may be none (65535) -/
def eI (n : Nat) : Int32 := if n = 65535 then -nI 1 else nI n
theorem eI_of {n : Nat} (h : n < 65535) : eI n = nI n := by rw [eI, if_neg (by omega)]
theorem eI_N : eI 65535 = -nI 1 := rfl
def bI (b : Bool) : Int32 := if b then nI 1 else nI 0
theorem pz_bt : bI true = nI 1 := rfl
theorem pz_bf : bI false = nI 0 := rfl
theorem pz_b0 (b : Bool) : (bI b = nI 0) = (b = false) := by cases b <;> simp (decide := true) [bI]
theorem pz_b1i (b : Bool) : (bI b = nI 1) = (b = true) := by cases b <;> simp (decide := true) [bI]
theorem pz_zbb (b : Bool) : mm_zb (bI b) = true := by cases b <;> decide +kernel
theorem bI_t {P : Prop} {d : Decidable P} (h : P) : nI 1 = bI (@decide P d) := by rw [decide_eq_true h]; rfl
theorem bI_f {P : Prop} {d : Decidable P} (h : ¬ P) : nI 0 = bI (@decide P d) := by rw [decide_eq_false h]; rfl
/-- what an int says as a natural number; one below 0 is far out -/
def vN (v : Int32) : Nat := if v < 0 then 2147483648 else v.toNatClampNeg
theorem vN_n {a : Nat} (h : a < 2 ^ 31) : vN (nI a) = a := by
  rw [vN, if_neg (nI_pos h), nI_clamp h]
theorem vN_m {b : Nat} (hb : b ≤ 2 ^ 31) (h0 : 0 < b) : vN (-nI b) = 2147483648 := by
  rw [vN, if_pos]
  rw [pz_c0, pz_mlt (by decide) hb h0]
  trivial
theorem vN_e {v : Int32} (h : vN v < 2147483648) : v = nI (vN v) := by
  rcases pz_cases v with ⟨a, ha, rfl⟩ | ⟨b, h0, hb, rfl⟩
  · rw [vN_n ha]
  · rw [vN_m hb h0] at h; omega
theorem upd_at (f : Nat → Int32) (k : Nat) (x : Int32) (j : Nat) : upd f k x j = if j = k then x else f j := rfl
/-! a loop whose state is only known by what holds of it; W fuel counter state -/
theorem pz_rel {σ ρ : Type} (W : Nat → Nat → σ → Option ρ) (I : Nat → σ → Prop) (e : Nat) (Post : ρ → Prop) (hs : ∀ n k a, k < e → I k a → (∃ r, W (n + 1) k a = some r ∧ Post r) ∨ ∃ b, I (k + 1) b ∧ W (n + 1) k a = W n (k + 1) b) (hx : ∀ n a, I e a → ∃ r, W (n + 1) e a = some r ∧ Post r) : ∀ n k a, k ≤ e → e - k < n → I k a → ∃ r, W n k a = some r ∧ Post r := by
  intro n
  induction n with
  | zero => intro k a h1 h2; omega
  | succ n ih =>
    intro k a h1 h2 hi
    rcases Nat.lt_or_ge k e with h | h
    · rcases hs n k a h hi with h3 | ⟨b, h3, h4⟩
      · exact h3
      · rw [h4]; exact ih (k + 1) b (by omega) (by omega) h3
    · obtain rfl : k = e := by omega
      exact hx n a hi
/-- the same, the end told as a call that goes on -/
theorem pz_relC {σ ρ : Type} (W : Nat → Nat → σ → Option ρ) (I : Nat → σ → Prop) (e : Nat) (K : σ → Option ρ) (hs : ∀ n k a, k < e → I k a → ∃ b, I (k + 1) b ∧ W (n + 1) k a = W n (k + 1) b) (hx : ∀ n a, I e a → W (n + 1) e a = K a) : ∀ n k a, k ≤ e → e - k < n → I k a → ∃ b, I e b ∧ W n k a = K b := by
  intro n
  induction n with
  | zero => intro k a h1 h2; omega
  | succ n ih =>
    intro k a h1 h2 hi
    rcases Nat.lt_or_ge k e with h | h
    · obtain ⟨b, h3, h4⟩ := hs n k a h hi
      rw [h4]; exact ih (k + 1) b (by omega) (by omega) h3
    · obtain rfl : k = e := by omega
      exact ⟨a, hi, hx n a hi⟩
def filF {α : Type} (f g : Nat → α) (i : Nat) : Nat → α := fun k => if k < i then f k else g k
theorem filF_0 {α : Type} (f g : Nat → α) : filF f g 0 = g := by
  funext j
  rw [filF, if_neg (by omega)]
theorem filF_in {α : Type} {f g : Nat → α} {i k : Nat} (h : k < i) : filF f g i k = f k := by rw [filF, if_pos h]
theorem filF_out {α : Type} {f g : Nat → α} {i k : Nat} (h : i ≤ k) : filF f g i k = g k := by rw [filF, if_neg (by omega)]
theorem filF_s (f g : Nat → Int32) (i : Nat) : upd (filF f g i) i (f i) = filF f g (i + 1) := by
  funext j
  unfold upd filF
  by_cases h : j = i
  · subst h
    rw [if_pos rfl, if_pos (by omega)]
  · rw [if_neg h]
    by_cases h2 : j < i
    · rw [if_pos (by omega), if_pos (by omega)]
    · rw [if_neg (by omega), if_neg (by omega)]
/-! comparisons of naturals, decided by what is known -/
theorem pz_leT {a b : Nat} (h : a ≤ b) : (a ≤ b) = True := eq_true h
theorem pz_leF {a b : Nat} (h : b < a) : (a ≤ b) = False := eq_false (Nat.not_le.mpr h)
theorem pz_ltT {a b : Nat} (h : a < b) : (a < b) = True := eq_true h
theorem pz_ltF {a b : Nat} (h : b ≤ a) : (a < b) = False := eq_false (Nat.not_lt.mpr h)
theorem pz_eqT {a b : Nat} (h : a = b) : (a = b) = True := eq_true h
theorem pz_eqF {a b : Nat} (h : a < b ∨ b < a) : (a = b) = False := eq_false (by omega)
