/-! DEAD: dark lamps -/
theorem eI_eq {a b : Nat} (ha : a ≤ 65535) (hb : b ≤ 65535) : (eI a = eI b) = (a = b) := by
  apply propext
  rcases (show a = 65535 ∨ a < 65535 by omega) with h | h <;> rcases (show b = 65535 ∨ b < 65535 by omega) with g | g
  · rw [h, g]
    exact ⟨fun _ => rfl, fun _ => rfl⟩
  · rw [h, eI_N, eI_of g, pz_meq (by omega) (by decide) (by decide)]
    constructor
    · exact False.elim
    · omega
  · rw [g, eI_N, eI_of h, pz_eqm (by omega) (by decide) (by decide)]
    constructor
    · exact False.elim
    · omega
  · rw [eI_of h, eI_of g, pz_eq (by omega) (by omega)]
def dkF (sh at_ : Nat) (p : Nat → Bool) (j i : Nat) : Bool := sh.testBit i && !(decide (i < j) && p (cel at_ i))
def DK (sh at_ : Nat) (p : Nat → Bool) (j : Nat) : Nat := mkN (dkF sh at_ p j) 12
def soAll (s : Nat → Nat) (p : Nat → Bool) : Nat → Bool
  | 0 => true
  | k + 1 => soAll s p k && decide (rd s (DK (s (30 + s (336 + 3 * k + 1))) (s (336 + 3 * k)) p 12) = s (336 + 3 * k + 2))
def d2P (d1 d2 c : Nat) : Bool := decide (c = d1) || decide (c = d2)
theorem DK_lt {sh at_ : Nat} {p : Nat → Bool} {j : Nat} : DK sh at_ p j < 4096 := mkN_lt _ 12
theorem DK_bit {sh at_ : Nat} {p : Nat → Bool} {j i : Nat} (hi : i < 12) : (DK sh at_ p j).testBit i = dkF sh at_ p j i := by
  rw [DK, mkN_bit]; simp [hi]
theorem DK_0 {sh at_ : Nat} {p : Nat → Bool} (h : sh < 4096) : DK sh at_ p 0 = sh := by
  symm
  apply mkN_eq (n := 12) h
  intro i _
  rw [dkF]; simp
theorem DK_cong {sh at_ : Nat} {p q : Nat → Bool} {j : Nat} (ha : at_ < 22) (h : ∀ c, c < 60 → p c = q c) : DK sh at_ p j = DK sh at_ q j := by
  apply mkN_cong
  intro i hi
  rw [dkF, dkF, h _ (by unfold cel; omega)]
theorem f32b {i : Nat} (h : i < 12) : Nat.testBit 4294967295 i = true := by
  have : ∀ i, i < 12 → Nat.testBit 4294967295 i = true := by decide +kernel
  exact this i h
theorem pz_neg1 : (-1 : Int32) = nI 4294967295 := by decide +kernel
theorem DK_hit {sh at_ : Nat} {p : Nat → Bool} {j : Nat} (_hj : j < 12) (h : p (cel at_ j) = true) : DK sh at_ p j &&& ((1 <<< j) ^^^ 4294967295) = DK sh at_ p (j + 1) := by
  apply mkN_eq (n := 12)
  · exact Nat.lt_of_le_of_lt Nat.and_le_left DK_lt
  · intro i hi
    rw [Nat.testBit_and, Nat.testBit_xor, one_bit, f32b hi, DK_bit hi, dkF, dkF]
    by_cases e : i = j
    · subst e
      rw [h]; simp
    · have : decide (i < j + 1) = decide (i < j) := by simp only [decide_eq_decide]; omega
      rw [this]; simp [e]
theorem DK_not {sh at_ : Nat} {p : Nat → Bool} {j : Nat} (_hj : j < 12) (h : p (cel at_ j) = false) : DK sh at_ p j &&& 4294967295 = DK sh at_ p (j + 1) := by
  apply mkN_eq (n := 12)
  · exact Nat.lt_of_le_of_lt Nat.and_le_left DK_lt
  · intro i hi
    rw [Nat.testBit_and, f32b hi, DK_bit hi, dkF, dkF]
    by_cases e : i = j
    · subst e
      rw [h]; simp
    · have : decide (i < j + 1) = decide (i < j) := by simp only [decide_eq_decide]; omega
      rw [this]; simp
theorem woF_cel {sh at_ i : Nat} (hi : i < 12) (hx : at_ % 12 ≤ 9) : woF sh (at_ / 12) (at_ % 12) 4 (cel at_ i) = sh.testBit i := by
  have e1 : cel at_ i % 12 = at_ % 12 + i % 3 := by unfold cel; omega
  have e2 : cel at_ i / 12 = at_ / 12 + i / 3 := by unfold cel; omega
  have e3 : inb (at_ / 12) (at_ % 12) (cel at_ i) = true := by
    simp only [inb, Bool.and_eq_true, decide_eq_true_eq]
    rw [e1, e2]
    refine ⟨?_, ?_, ?_, ?_⟩ <;> omega
  have e4 : idx (at_ / 12) (at_ % 12) (cel at_ i) = i := by
    unfold idx
    rw [e1, e2]; omega
  rw [woF, e3, e4, e2, decide_eq_true (show at_ / 12 + i / 3 < at_ / 12 + 4 by omega)]
  rfl
theorem sh_none {sh at_ d : Nat} {p : Nat → Bool} (hs : sh < 4096) (ha : at_ < 22) (hx : at_ % 12 ≤ 9) (hd : ∀ c, c < 60 → d.testBit c = p c) (h : mkN (woF sh (at_ / 12) (at_ % 12) 4) 60 &&& d = 0) : DK sh at_ p 12 = sh := by
  symm
  apply mkN_eq (n := 12) hs
  intro i hi
  have hc : cel at_ i < 60 := by unfold cel; omega
  have h2 := congrArg (fun n => n.testBit (cel at_ i)) h
  simp only [Nat.testBit_and, mkN_bit, hc, decide_true, Bool.true_and, woF_cel hi hx, hd _ hc, Nat.zero_testBit] at h2
  rw [dkF, decide_eq_true hi]
  cases hb : sh.testBit i
  · rfl
  · rw [hb] at h2
    rw [Bool.true_and] at h2
    rw [h2]; rfl
theorem sh_rest {sh at_ d : Nat} {p : Nat → Bool} (ha : at_ < 22) (hx : at_ % 12 ≤ 9) (hd : ∀ c, c < 60 → d.testBit c = p c) : shp (mkN (woF sh (at_ / 12) (at_ % 12) 4) 60 &&& (d ^^^ 18446744073709551615)).testBit at_ = DK sh at_ p 12 := by
  apply mkN_cong
  intro i hi
  have hc : cel at_ i < 60 := by unfold cel; omega
  show Nat.testBit _ (cel at_ i) = _
  rw [Nat.testBit_and, mkN_bit, not_bit hc, woF_cel hi hx, hd _ hc, dkF, decide_eq_true hi, decide_eq_true hc, Bool.true_and, Bool.true_and]
section
variable {fu : Nat} {s : Nat → Nat} {st ones rf : Nat → Int32}
theorem soAll_cong (I : Iv s) {p q : Nat → Bool} (h : ∀ c, c < 60 → p c = q c) : ∀ k, k ≤ s 4 → soAll s p k = soAll s q k
  | 0, _ => rfl
  | k + 1, hk => by
    have hb := boxB_lt I (I.2.2.2.2.2.2.2.2.2.2 k (by omega)).1
    rw [soAll, soAll, soAll_cong I h k (by omega), DK_cong hb h]
theorem as_one {rec5 : Int32 → Int32 → Option Int32} {d1 d2 k : Nat} {b : Bool} (hf : 5000 ≤ fu) (I : Iv s) (R : SR st s) (hO : ∀ k, k < 4096 → ones k = nI (pc k)) (h1 : d1 ≤ 65535) (h2 : d2 ≤ 65535) (hk : k < s 4) : X8_areSo_L48 fu rec5 st ones (eI d1) (eI d2) (bI b) (nI k) (nI (336 + 3 * k)) fu (nI (s (30 + s (336 + 3 * k + 1)))) (nI 0) = rec5 (bI (b && decide (rd s (DK (s (30 + s (336 + 3 * k + 1))) (s (336 + 3 * k)) (d2P d1 d2) 12) = s (336 + 3 * k + 2)))) (nI (k + 1)) := by
  have i4 := I.2.2.2.2.1
  have i3 := I.2.2.2.1
  obtain ⟨hb, hm, hso⟩ := I.2.2.2.2.2.2.2.2.2.2 k hk
  have ha := boxB_lt I hb
  have hsh := I.2.2.2.2.2.2.2.2.2.1 _ hm
  have e0 := R (336 + 3 * k) (by omega)
  have e2 := R (336 + 3 * k + 2) (by omega)
  have main := pz_up (fun n j => X8_areSo_L48 fu rec5 st ones (eI d1) (eI d2) (bI b) (nI k) (nI (336 + 3 * k)) n (nI (DK (s (30 + s (336 + 3 * k + 1))) (s (336 + 3 * k)) (d2P d1 d2) j)) (nI j)) 12 (rec5 (bI (b && decide (rd s (DK (s (30 + s (336 + 3 * k + 1))) (s (336 + 3 * k)) (d2P d1 d2) 12) = s (336 + 3 * k + 2)))) (nI (k + 1))) (fun n j hj => ?_) (fun n => ?_) fu 0 (by omega) (by omega)
  · rw [DK_0 hsh] at main
    exact main
  · generalize s (30 + s (336 + 3 * k + 1)) = sh at *
    generalize s (336 + 3 * k) = at_ at *
    have hhit := DK_hit (sh := sh) (at_ := at_) (p := d2P d1 d2) hj
    have hnot := DK_not (sh := sh) (at_ := at_) (p := d2P d1 d2) hj
    have hc : cel at_ j < 60 := by unfold cel; omega
    have ec : nI (cel at_ j) = eI (cel at_ j) := (eI_of (by omega)).symm
    rw [X8_areSo_L48]
    generalize X8_areSo_L48 fu rec5 st ones (eI d1) (eI d2) (bI b) (nI k) (nI (336 + 3 * k)) n = rec
    rw [if_neg (by rw [pz_c12, pz_le (by decide) (by omega)]; omega), pz_rd _ _ (by omega) (by omega), e0, eI_of (n := at_) (by omega), show f_X8_cellOf fu (nI at_) (nI j) = some (nI (cel at_ j)) from x8_cellOf hj, pz_bind]
    have exor : ((1 : Int32) <<< (nI j &&& 31)) ^^^ (-1 : Int32) = nI ((1 <<< j) ^^^ 4294967295) := by
      rw [pz_neg1, pz_c31, pz_31 (by omega), pz_c1, pz_shl _ (by omega), pz_xor]
    by_cases q1 : cel at_ j = d1
    · have hp : d2P d1 d2 (cel at_ j) = true := by rw [d2P, decide_eq_true q1]; rfl
      rw [if_pos (by rw [ec, eI_eq (by omega) h1]; exact q1), X8_areSo_J83, X8_areSo_J93, exor, pz_and, hhit hp, nI_1]
    · rw [if_neg (by rw [ec, eI_eq (by omega) h1]; exact q1)]
      by_cases q2 : cel at_ j = d2
      · have hp : d2P d1 d2 (cel at_ j) = true := by rw [d2P, decide_eq_true q2, Bool.or_true]
        rw [if_pos (by rw [ec, eI_eq (by omega) h2]; exact q2), X8_areSo_J83, X8_areSo_J93, exor, pz_and, hhit hp, nI_1]
      · have hp : d2P d1 d2 (cel at_ j) = false := by rw [d2P, decide_eq_false q1, decide_eq_false q2]; rfl
        rw [if_neg (by rw [ec, eI_eq (by omega) h2]; exact q2), X8_areSo_J93, pz_neg1, pz_and, hnot hp, nI_1]
  · generalize s (30 + s (336 + 3 * k + 1)) = sh at *
    generalize s (336 + 3 * k) = at_ at *
    have hr := rd_rng (s := s) (DK sh at_ (d2P d1 d2) 12)
    rw [X8_areSo_L48]
    generalize X8_areSo_L48 fu rec5 st ones (eI d1) (eI d2) (bI b) (nI k) (nI (336 + 3 * k)) n = rec
    rw [if_pos (by decide +kernel)]
    cases b
    · rw [if_pos b_f, X8_areSo_J128, X8_areSo_J129, nI_1]; rfl
    · rw [if_neg b_t, x8_readAs hf I R hO DK_lt, pz_bind, pz_c2, nI_add, pz_rd _ _ (by omega) (by omega), e2, Bool.true_and]
      by_cases g : rd s (DK sh at_ (d2P d1 d2) 12) = s (336 + 3 * k + 2)
      · rw [if_pos (by rw [g]), X8_areSo_J129, nI_1, decide_eq_true g]; rfl
      · rw [if_neg (by rw [eI_eq (by omega) (by omega)]; exact g), X8_areSo_J128, X8_areSo_J129, nI_1, decide_eq_false g]; rfl
theorem x8_areSo {d1 d2 : Nat} (hf : 5000 ≤ fu) (I : Iv s) (R : SR st s) (hO : ∀ k, k < 4096 → ones k = nI (pc k)) (h1 : d1 ≤ 65535) (h2 : d2 ≤ 65535) : f_X8_areSo fu st ones (eI d1) (eI d2) = some (bI (soAll s (d2P d1 d2) (s 4))) := by
  have hd := SR_hd I R
  have i4 := I.2.2.2.2.1
  have i3 := I.2.2.2.1
  rw [f_X8_areSo]
  refine pz_up (fun n k => X8_areSo_L5 fu st ones (eI d1) (eI d2) n (bI (soAll s (d2P d1 d2) k)) (nI k)) (s 4) _ (fun n k hk => ?_) (fun n => ?_) fu 0 (by omega) (by omega)
  · obtain ⟨hb, hm, hso⟩ := I.2.2.2.2.2.2.2.2.2.2 k hk
    have e := as_one (rec5 := X8_areSo_L5 fu st ones (eI d1) (eI d2) n) (b := soAll s (d2P d1 d2) k) hf I R hO h1 h2 hk
    have e1 := R (336 + 3 * k + 1) (by omega)
    have e3 := R (30 + s (336 + 3 * k + 1)) (by omega)
    have hsh := I.2.2.2.2.2.2.2.2.2.1 _ hm
    rw [X8_areSo_L5]
    rw [hd.2.2.2.2.1, if_neg (by rw [pz_le (by omega) (by omega)]; omega), pz_let, pz_c336, pz_c3, pk_mul, nI_add, pz_c1, nI_add, pz_rd _ _ (by omega) (by omega), e1, eI_of (n := s (336 + 3 * k + 1)) (by omega), pz_c30, nI_add, pz_rd _ _ (by omega) (by omega), e3, eI_of (n := s (30 + s (336 + 3 * k + 1))) (by omega)]
    exact e
  · rw [X8_areSo_L5, hd.2.2.2.2.1, if_pos (by rw [pz_le (by omega) (by omega)]; omega), pz_zbb, pz_gd]
def tk (s : Nat → Nat) (p : Nat → Bool) (v1 v2 v3 : Int32) (a : Int32 × Int32 × Int32 × Int32) : Int32 × Int32 × Int32 × Int32 := if soAll s p (s 4) = true then (if a.1 = 0 then (a.1 + 1, v1, v2, v3) else (a.1 + 1, a.2.1, a.2.2.1, a.2.2.2)) else a
theorem x8_tryDead {d1 d2 : Nat} {v1 m z l g : Int32} (hf : 5000 ≤ fu) (I : Iv s) (R : SR st s) (hO : ∀ k, k < 4096 → ones k = nI (pc k)) (h1 : d1 ≤ 65535) (h2 : d2 ≤ 65535) : f_X8_tryDead fu m z l g st ones v1 (eI d1) (eI d2) = some (tk s (d2P d1 d2) v1 (eI d1) (if v1 = 2 then eI d2 else eI d1) (m, z, l, g)) := by
  rw [f_X8_tryDead, x8_areSo hf I R hO h1 h2, pz_bind, tk]
  cases soAll s (d2P d1 d2) (s 4)
  · rw [if_pos b_f, if_neg (by decide)]
  · rw [if_neg b_t, if_pos rfl]
    by_cases hm : m = 0
    · rw [if_pos hm]
      dsimp only
      rw [if_pos hm]
      by_cases hv : v1 = 2
      · rw [if_pos hv, if_pos hv, X8_tryDead_J38, X8_tryDead_J41]
      · rw [if_neg hv, if_neg hv, X8_tryDead_J38, X8_tryDead_J41]
    · rw [if_neg hm, X8_tryDead_J41]
      dsimp only
      rw [if_neg hm]
end
