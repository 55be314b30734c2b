theorem dJ0_length_8abf5_0 : decode cJ0_length_8abf5 0 = .ok (.aload_n 0, 1) := by decide +kernel
theorem dJ0_length_8abf5_1 : decode cJ0_length_8abf5 1 = .ok (.getfield 9, 3) := by decide +kernel
theorem dJ0_length_8abf5_4 : decode cJ0_length_8abf5 4 = .ok (.arraylength, 1) := by decide +kernel
theorem dJ0_length_8abf5_5 : decode cJ0_length_8abf5 5 = .ok (.aload_n 0, 1) := by decide +kernel
theorem dJ0_length_8abf5_6 : decode cJ0_length_8abf5 6 = .ok (.invokevirtual 335, 3) := by decide +kernel
theorem dJ0_length_8abf5_9 : decode cJ0_length_8abf5 9 = .ok (.ishr, 1) := by decide +kernel
theorem dJ0_length_8abf5_10 : decode cJ0_length_8abf5 10 = .ok (.ireturn, 1) := by decide +kernel
theorem dJ0_charAt_5068e_0 : decode cJ0_charAt_5068e 0 = .ok (.aload_n 0, 1) := by decide +kernel
theorem dJ0_charAt_5068e_1 : decode cJ0_charAt_5068e 1 = .ok (.invokevirtual 492, 3) := by decide +kernel
theorem dJ0_charAt_5068e_4 : decode cJ0_charAt_5068e 4 = .ok (.ifCond .eq 12, 3) := by decide +kernel
theorem dJ0_charAt_5068e_7 : decode cJ0_charAt_5068e 7 = .ok (.aload_n 0, 1) := by decide +kernel
theorem dJ0_charAt_5068e_8 : decode cJ0_charAt_5068e 8 = .ok (.getfield 9, 3) := by decide +kernel
theorem dJ0_charAt_5068e_11 : decode cJ0_charAt_5068e 11 = .ok (.iload_n 1, 1) := by decide +kernel
theorem dJ0_charAt_5068e_12 : decode cJ0_charAt_5068e 12 = .ok (.invokestatic 495, 3) := by decide +kernel
theorem dJ0_charAt_5068e_15 : decode cJ0_charAt_5068e 15 = .ok (.ireturn, 1) := by decide +kernel
theorem dJ0_charAt_5068e_16 : decode cJ0_charAt_5068e 16 = .ok (.aload_n 0, 1) := by decide +kernel
theorem dJ0_charAt_5068e_17 : decode cJ0_charAt_5068e 17 = .ok (.getfield 9, 3) := by decide +kernel
theorem dJ0_charAt_5068e_20 : decode cJ0_charAt_5068e 20 = .ok (.iload_n 1, 1) := by decide +kernel
theorem dJ0_charAt_5068e_21 : decode cJ0_charAt_5068e 21 = .ok (.invokestatic 498, 3) := by decide +kernel
theorem dJ0_charAt_5068e_24 : decode cJ0_charAt_5068e 24 = .ok (.ireturn, 1) := by decide +kernel
theorem dJ0_coder_7d493_0 : decode cJ0_coder_7d493 0 = .ok (.getstatic 38, 3) := by decide +kernel
theorem dJ0_coder_7d493_3 : decode cJ0_coder_7d493 3 = .ok (.ifCond .eq 10, 3) := by decide +kernel
theorem dJ0_coder_7d493_6 : decode cJ0_coder_7d493 6 = .ok (.aload_n 0, 1) := by decide +kernel
theorem dJ0_coder_7d493_7 : decode cJ0_coder_7d493 7 = .ok (.getfield 15, 3) := by decide +kernel
theorem dJ0_coder_7d493_10 : decode cJ0_coder_7d493 10 = .ok (.goto 4, 3) := by decide +kernel
theorem dJ0_coder_7d493_13 : decode cJ0_coder_7d493 13 = .ok (.iconst 1, 1) := by decide +kernel
theorem dJ0_coder_7d493_14 : decode cJ0_coder_7d493 14 = .ok (.ireturn, 1) := by decide +kernel
theorem dJ0_isLatin1_aae02_0 : decode cJ0_isLatin1_aae02 0 = .ok (.getstatic 38, 3) := by decide +kernel
theorem dJ0_isLatin1_aae02_3 : decode cJ0_isLatin1_aae02 3 = .ok (.ifCond .eq 14, 3) := by decide +kernel
theorem dJ0_isLatin1_aae02_6 : decode cJ0_isLatin1_aae02 6 = .ok (.aload_n 0, 1) := by decide +kernel
theorem dJ0_isLatin1_aae02_7 : decode cJ0_isLatin1_aae02 7 = .ok (.getfield 15, 3) := by decide +kernel
theorem dJ0_isLatin1_aae02_10 : decode cJ0_isLatin1_aae02 10 = .ok (.ifCond .ne 7, 3) := by decide +kernel
theorem dJ0_isLatin1_aae02_13 : decode cJ0_isLatin1_aae02 13 = .ok (.iconst 1, 1) := by decide +kernel
theorem dJ0_isLatin1_aae02_14 : decode cJ0_isLatin1_aae02 14 = .ok (.goto 4, 3) := by decide +kernel
theorem dJ0_isLatin1_aae02_17 : decode cJ0_isLatin1_aae02 17 = .ok (.iconst 0, 1) := by decide +kernel
theorem dJ0_isLatin1_aae02_18 : decode cJ0_isLatin1_aae02 18 = .ok (.ireturn, 1) := by decide +kernel
theorem dJ0_checkIndex_df160_0 : decode cJ0_checkIndex_df160 0 = .ok (.iload_n 0, 1) := by decide +kernel
theorem dJ0_checkIndex_df160_1 : decode cJ0_checkIndex_df160 1 = .ok (.iload_n 1, 1) := by decide +kernel
theorem dJ0_checkIndex_df160_2 : decode cJ0_checkIndex_df160 2 = .ok (.getstatic 1053, 3) := by decide +kernel
theorem dJ0_checkIndex_df160_5 : decode cJ0_checkIndex_df160 5 = .ok (.invokestatic 1059, 3) := by decide +kernel
theorem dJ0_checkIndex_df160_8 : decode cJ0_checkIndex_df160 8 = .ok (.pop, 1) := by decide +kernel
theorem dJ0_checkIndex_df160_9 : decode cJ0_checkIndex_df160 9 = .ok (.return_, 1) := by decide +kernel
theorem dJ1_charAt_3b067_0 : decode cJ1_charAt_3b067 0 = .ok (.iload_n 1, 1) := by decide +kernel
theorem dJ1_charAt_3b067_1 : decode cJ1_charAt_3b067 1 = .ok (.aload_n 0, 1) := by decide +kernel
theorem dJ1_charAt_3b067_2 : decode cJ1_charAt_3b067 2 = .ok (.arraylength, 1) := by decide +kernel
theorem dJ1_charAt_3b067_3 : decode cJ1_charAt_3b067 3 = .ok (.invokestatic 9, 3) := by decide +kernel
theorem dJ1_charAt_3b067_6 : decode cJ1_charAt_3b067 6 = .ok (.aload_n 0, 1) := by decide +kernel
theorem dJ1_charAt_3b067_7 : decode cJ1_charAt_3b067 7 = .ok (.iload_n 1, 1) := by decide +kernel
theorem dJ1_charAt_3b067_8 : decode cJ1_charAt_3b067 8 = .ok (.baload, 1) := by decide +kernel
theorem dJ1_charAt_3b067_9 : decode cJ1_charAt_3b067 9 = .ok (.sipush 255, 3) := by decide +kernel
theorem dJ1_charAt_3b067_12 : decode cJ1_charAt_3b067 12 = .ok (.iand, 1) := by decide +kernel
theorem dJ1_charAt_3b067_13 : decode cJ1_charAt_3b067 13 = .ok (.i2c, 1) := by decide +kernel
theorem dJ1_charAt_3b067_14 : decode cJ1_charAt_3b067 14 = .ok (.ireturn, 1) := by decide +kernel
theorem dJ3_checkIndex_8e157_0 : decode cJ3_checkIndex_8e157 0 = .ok (.iload_n 0, 1) := by decide +kernel
theorem dJ3_checkIndex_8e157_1 : decode cJ3_checkIndex_8e157 1 = .ok (.ifCond .lt 8, 3) := by decide +kernel
theorem dJ3_checkIndex_8e157_4 : decode cJ3_checkIndex_8e157 4 = .ok (.iload_n 0, 1) := by decide +kernel
theorem dJ3_checkIndex_8e157_5 : decode cJ3_checkIndex_8e157 5 = .ok (.iload_n 1, 1) := by decide +kernel
theorem dJ3_checkIndex_8e157_6 : decode cJ3_checkIndex_8e157 6 = .ok (.if_icmp .lt 10, 3) := by decide +kernel
theorem dJ3_checkIndex_8e157_9 : decode cJ3_checkIndex_8e157 9 = .ok (.aload_n 2, 1) := by decide +kernel
theorem dJ3_checkIndex_8e157_10 : decode cJ3_checkIndex_8e157 10 = .ok (.iload_n 0, 1) := by decide +kernel
theorem dJ3_checkIndex_8e157_11 : decode cJ3_checkIndex_8e157 11 = .ok (.iload_n 1, 1) := by decide +kernel
theorem dJ3_checkIndex_8e157_12 : decode cJ3_checkIndex_8e157 12 = .ok (.invokestatic 95, 3) := by decide +kernel
theorem dJ3_checkIndex_8e157_15 : decode cJ3_checkIndex_8e157 15 = .ok (.athrow, 1) := by decide +kernel
theorem dJ3_checkIndex_8e157_16 : decode cJ3_checkIndex_8e157 16 = .ok (.iload_n 0, 1) := by decide +kernel
theorem dJ3_checkIndex_8e157_17 : decode cJ3_checkIndex_8e157 17 = .ok (.ireturn, 1) := by decide +kernel
abbrev mJ0_coder_7d493 : mm_M := (yJ0_coder_7d493, cJ0_coder_7d493, 1, (some .byte), { frames := 0, cells := 0, slots := 0, locals := 0 })
abbrev mJ0_length_8abf5 : mm_M := (yJ0_length_8abf5, cJ0_length_8abf5, 1, (some .int), { frames := 1, cells := 0, slots := 0, locals := 20 })
abbrev mJ0_isLatin1_aae02 : mm_M := (yJ0_isLatin1_aae02, cJ0_isLatin1_aae02, 1, (some .boolean), { frames := 0, cells := 0, slots := 0, locals := 0 })
abbrev mJ3_checkIndex_8e157 : mm_M := (yJ3_checkIndex_8e157, cJ3_checkIndex_8e157, 3, (some .int), { frames := 0, cells := 0, slots := 0, locals := 0 })
abbrev mJ0_checkIndex_df160 : mm_M := (yJ0_checkIndex_df160, cJ0_checkIndex_df160, 2, none, { frames := 1, cells := 0, slots := 0, locals := 22 })
abbrev mJ1_charAt_3b067 : mm_M := (yJ1_charAt_3b067, cJ1_charAt_3b067, 2, (some .char), { frames := 2, cells := 0, slots := 0, locals := 43 })
abbrev mJ0_charAt_5068e : mm_M := (yJ0_charAt_5068e, cJ0_charAt_5068e, 2, (some .char), { frames := 3, cells := 0, slots := 0, locals := 64 })
theorem cV_J0_335 : mm_cv RJ0 335 mJ0_coder_7d493 0 := ⟨mm_in 563 (by decide +kernel) rfl, mm_in 564 (by decide +kernel) rfl, mm_in 565 (by decide +kernel) rfl, mm_in 75 (by decide +kernel) rfl, mm_in 566 (by decide +kernel) rfl, ⟨by decide +kernel, by decide +kernel, by decide +kernel⟩⟩
theorem cV_J0_492 : mm_cv RJ0 492 mJ0_isLatin1_aae02 0 := ⟨mm_in 573 (by decide +kernel) rfl, mm_in 574 (by decide +kernel) rfl, mm_in 575 (by decide +kernel) rfl, mm_in 75 (by decide +kernel) rfl, mm_in 576 (by decide +kernel) rfl, ⟨by decide +kernel, by decide +kernel, by decide +kernel⟩⟩
theorem cS_J0_495 : mm_cs RJ0 495 mJ1_charAt_3b067 2 := ⟨mm_in 577 (by decide +kernel) rfl, mm_in 578 (by decide +kernel) rfl, mm_in 76 (by decide +kernel) rfl, mm_in 579 (by decide +kernel) rfl, ⟨by decide +kernel, by decide +kernel, by decide +kernel⟩⟩
theorem cS_J1_9 : mm_cs RJ1 9 mJ0_checkIndex_df160 2 := ⟨mm_in 580 (by decide +kernel) rfl, mm_in 581 (by decide +kernel) rfl, mm_in 75 (by decide +kernel) rfl, mm_in 582 (by decide +kernel) rfl, ⟨by decide +kernel, by decide +kernel, by decide +kernel⟩⟩
theorem cS_J0_1059 : mm_cs RJ0 1059 mJ3_checkIndex_8e157 3 := ⟨mm_in 585 (by decide +kernel) rfl, mm_in 586 (by decide +kernel) rfl, mm_in 77 (by decide +kernel) rfl, mm_in 587 (by decide +kernel) rfl, ⟨by decide +kernel, by decide +kernel, by decide +kernel⟩⟩
theorem pn_J0 : plainName RJ0 = true := by decide +kernel
theorem pn_J1 : plainName RJ1 = true := by decide +kernel
theorem pn_J3 : plainName RJ3 = true := by decide +kernel
theorem sl_COMPACT : Cond.fieldLink RJ0 38 "java/lang/String" "COMPACT_STRINGS" "Z" ∈ mm_big := mm_in 567 (by decide +kernel) rfl
theorem sl_FORMAT : Cond.fieldLink RJ0 1053 "jdk/internal/util/Preconditions" "SIOOBE_FORMATTER" "Ljava/util/function/BiFunction;" ∈ mm_big := mm_in 583 (by decide +kernel) rfl
theorem sl_value : Cond.fieldLink RJ0 9 "java/lang/String" "value" "[B" ∈ mm_big := mm_in 1322 (by decide +kernel) rfl
theorem sl_coder : Cond.fieldLink RJ0 15 "java/lang/String" "coder" "B" ∈ mm_big := mm_in 1323 (by decide +kernel) rfl
section MMSTR
variable {M M' : mm_M} {Fr : mm_T} {cs ss pc pc' ix n i : Nat} {l : List (Nat × Value)} {st As rest : List Value} {ws : mm_W} {Post : Option Value → mm_W → Prop}
theorem mm_callStr (hi : i < 6) (hc : mm_cv M.1.cls ix M' n) (hcls : M'.1.cls = "java/lang/String") (hOk : mm_Ok M' (.ref (1000 + i) :: As) [] Post) (hAs : ∀ f, As.map (mm_v f) = As) (hroom : mm_room M M') (hd : decode M.2.1 pc = .ok (.invokevirtual ix, 3)) (hst : st = As.reverse ++ .ref (1000 + i) :: rest) (hn : As.length = n) (hlen : ∀ rv w, Post rv w → w = [] ∧ ∀ f, rv.map (mm_v f) = rv) (hrest : (rest.map fun v => v.category).sum ≤ 8) (hcs : cs ≤ M.2.2.2.2.cells ∧ ss ≤ M.2.2.2.2.slots) (hp : pc + 3 = pc')
    (kk : ∀ (rv : Option Value) (w : mm_W), Post rv w → mm_Wp M Fr cs ss pc' l (rv.toList ++ rest) ws) : mm_Wp M Fr cs ss pc l st ws := by
  subst hp; subst hst
  intro p la e s m args below meth c D ad ck A H locs ls Q hF hFr hP hD hS hl
  obtain ⟨hc1, hc2, hc3, hc4, hc5, hc6, hc7, hc8⟩ := hc
  obtain ⟨hr1, hr2, hr3, hr4⟩ := hroom
  have hgood : GoodIn mm_big (wsV M.1.cls ix M'.1.cls M'.1 (mm_ws M')) := by
    intro w hw
    rcases List.mem_append.mp hw with hw | hw
    · rcases List.mem_cons.mp hw with rfl | hw
      · exact mm_big_good _ hc1
      rcases List.mem_cons.mp hw with rfl | hw
      · exact mm_big_good _ hc2
      rcases List.mem_cons.mp hw with rfl | hw
      · exact mm_big_good _ hc3
      rcases List.mem_cons.mp hw with rfl | hw
      · exact mm_big_good _ hc4
      cases hw
    · exact mm_ws_good hc5 w hw
  have hcut : mm_cutOk ws [] [] := ⟨rfl, rfl, by decide⟩
  have hav2 : (.ref (1000 + i) :: As).map (mm_v (fun k => ad (mm_rn [] k))) = .ref (ad (1000 + i)) :: As.map (mm_v ad) := by
    rw [List.map_cons, hAs, hAs]
    show Value.ref (ad (mm_rn [] (1000 + i))) :: As = _
    rw [show mm_rn [] (1000 + i) = 1000 + i by unfold mm_rn; rw [if_neg (by omega)]]
  have hpre := mm_pre (av := .ref (1000 + i) :: As) hF hP hD hS hcut hav2
  refine mm_after (va_runV (As := As.map (mm_v ad)) (rest := rest.map (mm_v ad)) (b := ad (1000 + i)) ⟨hF.1, hF.2.1, hF.2.2.1, hF.2.2.2.1, hF.2.2.2.2.1⟩ (hOk la D (fun k => ad (mm_rn [] k)) ck H.size)
    (cwV n hF.2.2.2.2.1 hgood rfl hr1 hr2 ⟨rfl, hc6, hc7, hc8⟩ ⟨hr3, hr4⟩) ⟨hpre.1, by rw [hcls]; exact vk_recv (adK := fun i => ad (1000 + i)) hF.2.2.2.2.2.2.2.2.1.2.1 hi hS, hpre.2⟩
    rfl (by simp [hn]) hl.1 (by simp [F0, mm_v]) (lv_room (mm_rest hrest)) hd ⟨hcs.1, hcs.2⟩) hP hD hS hF.2.2.2.2.2.2.2.2.2 hcut (fun rv w h => by rw [(hlen rv w h).1]) (fun rv w H1 locs1 hpost hP1 hD1 hS1 => ?_)
  have h1 := kk rv w hpost
  obtain ⟨rfl, h3⟩ := hlen rv w hpost
  have h2 := h1.use hF hFr hP1 hD1 hS1 hl
  rw [h3]
  rw [List.map_append] at h2
  rw [show rv.toList = (rv.map (mm_v ad)).toList by rw [h3]] at h2 ⊢
  have h4 : (rv.map (mm_v ad)).toList.map (mm_v ad) = (rv.map (mm_v ad)).toList := by
    cases rv with
    | none => rfl
    | some v => have := h3 ad; simp at this; simp [this]
  rw [h4] at h2
  exact h2
theorem mm_getCoder (hi : i < 6) (how : M.1.cls = RJ0) (hd : decode M.2.1 pc = .ok (.getfield 15, 3)) (hp : pc + 3 = pc') (kk : mm_Wp M Fr cs ss pc' l (.int 0 :: rest) ws) : mm_Wp M Fr cs ss pc l (.ref (1000 + i) :: rest) ws := by
  subst hp
  intro p la e s m args below meth c D ad ck A H locs ls Q hF hFr hP hD hS hl
  have hN := (hF.2.2.2.2.2.2.2.2.1.2.1).1 i hi
  exact vk_getf (v := .int 0) hF.1 hF.2.1 hN.2.1 hS hF.2.2.2.1 (hF.2.2.2.2.1 _ (by rw [how]; exact sl_coder)) (fun _ h => h) hd (kk.use hF hFr hP hD hS hl)
theorem mm_getValue (hi : i < 6) (how : M.1.cls = RJ0) (hd : decode M.2.1 pc = .ok (.getfield 9, 3)) (hp : pc + 3 = pc') (kk : mm_Wp M Fr cs ss pc' l (.ref (2000 + i) :: rest) ws) : mm_Wp M Fr cs ss pc l (.ref (1000 + i) :: rest) ws := by
  subst hp
  intro p la e s m args below meth c D ad ck A H locs ls Q hF hFr hP hD hS hl
  have hN := (hF.2.2.2.2.2.2.2.2.1.2.1).1 i hi
  exact vk_getf (v := .ref (ad (2000 + i))) hF.1 hF.2.1 hN.2.2.1 hS hF.2.2.2.1 (hF.2.2.2.2.1 _ (by rw [how]; exact sl_value)) (fun _ h => h) hd (kk.use hF hFr hP hD hS hl)
theorem mm_lenValue (hi : i < 6) (hd : decode M.2.1 pc = .ok (.arraylength, 1)) (hp : pc + 1 = pc') (kk : mm_Wp M Fr cs ss pc' l (.int (nI (mm_len.getD i 0)) :: rest) ws) : mm_Wp M Fr cs ss pc l (.ref (2000 + i) :: rest) ws := by
  subst hp
  intro p la e s m args below meth c D ad ck A H locs ls Q hF hFr hP hD hS hl
  have hN := (hF.2.2.2.2.2.2.2.2.1.2.1).1 i hi
  exact va_tlen hF.1 hF.2.1 hN.2.2.2 hS rfl hd (kk.use hF hFr hP hD hS hl)
theorem mm_bald {k : Nat} (hi : i < 6) (hk : k < mm_len.getD i 0) (hd : decode M.2.1 pc = .ok (.baload, 1)) (hp : pc + 1 = pc') (kk : mm_Wp M Fr cs ss pc' l (.int ((mm_byt.getD i []).getD k 0) :: rest) ws) : mm_Wp M Fr cs ss pc l (.int (nI k) :: .ref (2000 + i) :: rest) ws := by
  subst hp
  intro p la e s m args below meth c D ad ck A H locs ls Q hF hFr hP hD hS hl
  have hN := (hF.2.2.2.2.2.2.2.2.1.2.1).1 i hi
  have hl6 : mm_len.getD i 0 ≤ 6 := by
    rcases (show i = 0 ∨ i = 1 ∨ i = 2 ∨ i = 3 ∨ i = 4 ∨ i = 5 by omega) with rfl | rfl | rfl | rfl | rfl | rfl <;> decide
  exact va_tb hF.1 hF.2.1 hN.2.2.2 hS (vp_in_nI hk (by omega)) (by rw [nI_clamp (by omega)]; rfl) hd (kk.use hF hFr hP hD hS hl)
theorem mm_compact (how : M.1.cls = RJ0) (hd : decode M.2.1 pc = .ok (.getstatic 38, 3)) (hp : pc + 3 = pc') (kk : mm_Wp M Fr cs ss pc' l (.int 1 :: rest) ws) : mm_Wp M Fr cs ss pc l rest ws := by
  subst hp
  intro p la e s m args below meth c D ad ck A H locs ls Q hF hFr hP hD hS hl
  exact va_gets (v := .int 1) hF.1 hF.2.1 hF.2.2.2.2.2.2.2.2.1.2.2.2.1 hS hF.2.2.2.1 (hF.2.2.2.2.1 _ (by rw [how]; exact sl_COMPACT)) (fun _ h => h) hd (kk.use hF hFr hP hD hS hl)
theorem mm_i2c {x v : Int32} (hd : decode M.2.1 pc = .ok (.i2c, 1)) (hv : (x.toUInt32 % 65536).toInt32 = v) (hp : pc + 1 = pc') (kk : mm_Wp M Fr cs ss pc' l (.int v :: rest) ws) : mm_Wp M Fr cs ss pc l (.int x :: rest) ws := by
  subst hp
  intro p la e s m args below meth c D ad ck A H locs ls Q hF hFr hP hD hS hl
  exact lv_i2c hF.1 hF.2.1 hd hv (kk.use hF hFr hP hD hS hl)
theorem mm_nret {x : Int32} {ty : FieldType} {pc : Nat} (hr : M.2.2.2.1 = some ty) (hn : narrow ty (.int x) = .int x) (hd : decode M.2.1 pc = .ok (.ireturn, 1)) (h : Post (some (.int x)) ws) : mm_Wp M (mm_R Post) 0 0 pc l [.int x] ws := by
  intro p la e s m args below meth c D ad ck A H locs ls Q hF hFr hP hD hS hl
  have hq : Q = MQ below (mm_Q Post D ad ck A) args s 0 0 A := hFr
  rw [hq]
  exact W.zret hF.1 hF.2.1 (hF.2.2.2.2.2.1.trans hr) hn (fun t ht hW => ⟨⟨some (.int x), ws, rfl, h, by rw [ht]; exact hP⟩, hS.F ht⟩) hS.2.2 hd hF.2.2.2.2.2.2.1
end MMSTR
/-- the answer is the int r, the world stays empty -/
def P_str (r : Int32) : Option Value → mm_W → Prop := fun rv w => rv = some (.int r) ∧ w = []
theorem P_str_len {r : Int32} : ∀ rv w, P_str r rv w → w = [] ∧ ∀ f, rv.map (mm_v f) = rv := by rintro _ _ ⟨rfl, rfl⟩; exact ⟨rfl, fun _ => rfl⟩
theorem ok_J0_coder {i : Nat} (hi : i < 6) : mm_Ok mJ0_coder_7d493 [.ref (1000 + i)] [] (P_str 0) := by
  refine mm_Ok.of pn_J0 (l := [(0, .ref (1000 + i))]) rfl (Nat.le_of_ble_eq_true rfl) ?_
  refine mm_compact rfl dJ0_coder_7d493_0 (pc' := 3) rfl ?_
  refine mm_if_eq (tgt := 13) dJ0_coder_7d493_3 (by decide) (pc' := 6) rfl (fun c => absurd c (by decide)) (fun c => ?_)
  refine mm_aload_n 0 dJ0_coder_7d493_6 rfl rfl (pc' := 7) rfl ?_
  refine mm_getCoder hi rfl dJ0_coder_7d493_7 (pc' := 10) rfl ?_
  refine mm_goto (tgt := 14) dJ0_coder_7d493_10 (by decide) ?_
  exact mm_nret rfl (by decide) dJ0_coder_7d493_14 ⟨rfl, rfl⟩
theorem ok_J0_isLatin1 {i : Nat} (hi : i < 6) : mm_Ok mJ0_isLatin1_aae02 [.ref (1000 + i)] [] (P_str 1) := by
  refine mm_Ok.of pn_J0 (l := [(0, .ref (1000 + i))]) rfl (Nat.le_of_ble_eq_true rfl) ?_
  refine mm_compact rfl dJ0_isLatin1_aae02_0 (pc' := 3) rfl ?_
  refine mm_if_eq (tgt := 17) dJ0_isLatin1_aae02_3 (by decide) (pc' := 6) rfl (fun c => absurd c (by decide)) (fun c => ?_)
  refine mm_aload_n 0 dJ0_isLatin1_aae02_6 rfl rfl (pc' := 7) rfl ?_
  refine mm_getCoder hi rfl dJ0_isLatin1_aae02_7 (pc' := 10) rfl ?_
  refine mm_if_ne (tgt := 17) dJ0_isLatin1_aae02_10 (by decide) (pc' := 13) rfl (fun c => absurd rfl c) (fun c => ?_)
  refine mm_iconst dJ0_isLatin1_aae02_13 (by decide : _ = (1 : Int32)) (pc' := 14) rfl ?_
  refine mm_goto (tgt := 18) dJ0_isLatin1_aae02_14 (by decide) ?_
  exact mm_nret rfl (by decide) dJ0_isLatin1_aae02_18 ⟨rfl, rfl⟩
theorem mm_len6 {i : Nat} (hi : i < 6) : mm_len.getD i 0 ≤ 6 := by
  rcases (show i = 0 ∨ i = 1 ∨ i = 2 ∨ i = 3 ∨ i = 4 ∨ i = 5 by omega) with rfl | rfl | rfl | rfl | rfl | rfl <;> decide
theorem mm_shr0 {n : Nat} (h : n ≤ 6) : nI n >>> ((0 : Int32) &&& 31) = nI n := by
  rcases (show n = 0 ∨ n = 1 ∨ n = 2 ∨ n = 3 ∨ n = 4 ∨ n = 5 ∨ n = 6 by omega) with rfl | rfl | rfl | rfl | rfl | rfl | rfl <;> decide
theorem ok_J0_length {i : Nat} (hi : i < 6) : mm_Ok mJ0_length_8abf5 [.ref (1000 + i)] [] (P_str (nI (mm_len.getD i 0))) := by
  refine mm_Ok.of pn_J0 (l := [(0, .ref (1000 + i))]) rfl (Nat.le_of_ble_eq_true rfl) ?_
  refine mm_aload_n 0 dJ0_length_8abf5_0 rfl rfl (pc' := 1) rfl ?_
  refine mm_getValue hi rfl dJ0_length_8abf5_1 (pc' := 4) rfl ?_
  refine mm_lenValue hi dJ0_length_8abf5_4 (pc' := 5) rfl ?_
  refine mm_aload_n 0 dJ0_length_8abf5_5 rfl rfl (pc' := 6) rfl ?_
  refine mm_callStr (As := []) (rest := [.int (nI (mm_len.getD i 0))]) hi cV_J0_335 rfl (ok_J0_coder hi) (fun _ => rfl) ⟨rfl, rfl, Nat.le_of_ble_eq_true rfl, Nat.le_of_ble_eq_true rfl⟩ dJ0_length_8abf5_6 rfl rfl P_str_len (Nat.le_of_ble_eq_true rfl) ⟨Nat.zero_le _, Nat.zero_le _⟩ (pc' := 9) rfl ?_
  rintro rv w ⟨rfl, rfl⟩
  refine mm_ishr dJ0_length_8abf5_9 (pc' := 10) rfl ?_
  rw [mm_shr0 (mm_len6 hi)]
  exact mm_iret rfl dJ0_length_8abf5_10 ⟨rfl, rfl⟩
theorem ok_J3_checkIndex {i n : Int32} {v : Value} (hv : v = .null ∨ v = .ref 999) (h0 : ¬ i < 0) (h1 : i < n) : mm_Ok mJ3_checkIndex_8e157 [.int i, .int n, v] [] (P_str i) := by
  have hcat : v.category = 1 := by rcases hv with rfl | rfl <;> rfl
  refine mm_Ok.of pn_J3 (l := [(0, .int i), (1, .int n), (2, v)]) (by rcases hv with rfl | rfl <;> rfl) (by rcases hv with rfl | rfl <;> exact Nat.le_of_ble_eq_true rfl) ?_
  refine mm_iload_n 0 dJ3_checkIndex_8e157_0 rfl rfl (pc' := 1) rfl ?_
  refine mm_if_lt (tgt := 9) dJ3_checkIndex_8e157_1 (by decide) (pc' := 4) rfl (fun c => absurd c h0) (fun c => ?_)
  refine mm_iload_n 0 dJ3_checkIndex_8e157_4 rfl rfl (pc' := 5) rfl ?_
  refine mm_iload_n 1 dJ3_checkIndex_8e157_5 rfl rfl (pc' := 6) rfl ?_
  refine mm_icmp_lt (tgt := 16) dJ3_checkIndex_8e157_6 (by decide) (pc' := 9) rfl (fun c => ?_) (fun c => absurd h1 c)
  refine mm_iload_n 0 dJ3_checkIndex_8e157_16 rfl rfl (pc' := 17) rfl ?_
  exact mm_iret rfl dJ3_checkIndex_8e157_17 ⟨rfl, rfl⟩
theorem mm_after9 {Post : Option Value → mm_W → Prop} {pc cs ss : Nat} {p : Program} {la : Launch} {e : Env} {R : Room} {s : State} {m : MethodId} {args a : Array Value} {below : List Frame} {meth : Method} {c : Code} {D : va_G} {ad : Nat → Nat} {ck : Nat → ClassId} {A : Nat → Prop} {H : Heap} {locs : List Loc} {ls : Array Slot} {Q : State → Prop} {st0 rest0 : List Value}
    (hr : va_Run p la e R s m args below meth c H locs cs ss 0 0 (F0 m pc ls st0) rest0 (mm_Q Post D ad ck (va_A (mm_w ad ck []) H.size) a) (va_A (mm_w ad ck []) H.size))
    (hS : va_S A s.heap H locs) (hA : ∀ q, s.heap.size ≤ q → A q)
    (kk : ∀ (rv : Option Value) (w : mm_W) (H1 : Heap) (locs1 : List Loc), Post rv w → va_S A s.heap H1 locs1 → W p la e R s m args below meth c H1 locs1 cs ss Q (F0 m (pc + 3) ls ((rv.map (mm_v ad)).toList ++ rest0))) : W p la e R s m args below meth c H locs cs ss Q (F0 m pc ls st0) := by
  intro T hT X
  have hFc : ∀ q, va_A (mm_w ad ck []) H.size q → A q := by
    rintro q (⟨k, e1, h⟩ | h)
    · simp [mm_w] at h
    · exact hA q (Nat.le_trans hS.1 h)
  obtain ⟨v, st₀, t, T', L, h0, X', hL, e1, e2, ⟨⟨rv, w, hv, hpost, hP1⟩, hz, hk⟩, st⟩ := hr T hT X
  cases hv
  rw [h0] at hz hk
  have hS1 : va_S A s.heap T'.heap (locs ++ L) := ⟨Nat.le_trans hS.1 (by rw [e1]; exact hz), fun q h1 h2 => by
      rw [e1, hk q (Nat.lt_of_lt_of_le h1 hS.1) (fun z => h2 (hFc q z))]
      exact hS.2.1 q h1 h2, fun q hq => by
      rcases List.mem_append.mp hq with h | h
      · exact hS.2.2 q h
      · exact hFc _ (hL q h)⟩
  obtain ⟨t2, a1, b1⟩ := kk rv w T'.heap (locs ++ L) hpost hS1 T' rfl X'
  exact ⟨t2, st t2 a1, b1⟩
theorem ok_J0_checkIndex {i n : Int32} (h0 : ¬ i < 0) (h1 : i < n) : mm_Ok mJ0_checkIndex_df160 [.int i, .int n] [] (fun rv w => rv = none ∧ w = []) := by
  refine mm_Ok.of pn_J0 (l := [(0, .int i), (1, .int n)]) rfl (Nat.le_of_ble_eq_true rfl) ?_
  refine mm_iload_n 0 dJ0_checkIndex_df160_0 rfl rfl (pc' := 1) rfl ?_
  refine mm_iload_n 1 dJ0_checkIndex_df160_1 rfl rfl (pc' := 2) rfl ?_
  have hk : mm_Wp mJ0_checkIndex_df160 (mm_R (fun rv w => rv = none ∧ w = [])) 0 0 8 [(0, .int i), (1, .int n)] [.int i] [] := by
    refine mm_pop dJ0_checkIndex_df160_8 rfl (pc' := 9) rfl ?_
    exact mm_vret rfl dJ0_checkIndex_df160_9 ⟨rfl, rfl⟩
  intro p la e s m args below meth c D ad ck A H locs ls Q hF hFr hP hD hS hl
  have hts := hF.2.2.2.2.1
  obtain ⟨hc1, hc2, hc4, hc5, hc6, hc7, hc8⟩ := cS_J0_1059
  have core : ∀ (v v' : Value) (adC : Nat → Nat), (v = .null ∨ v = .ref 999) → (∀ k, 1000 ≤ k → adC k = ad k) → mm_v adC v = v' → W p la e mJ0_checkIndex_df160.2.2.2.2 s m args below meth c H locs 0 0 Q (F0 m 5 ls [v', .int n, .int i]) := by
    intro v v' adC hv had hvv
    have hpre : FrameBlind (va_Pc ([.int i, .int n, v].map (mm_v adC)) (fun U => U.heap.size = H.size ∧ va_P D vwCl (mm_w adC ck []) U.heap ∧ va_K D vwCl (mm_ty ck) U ∧ va_D (fun _ => True) (mm_w adC ck []) ∧ mm_N adC (va_A (mm_w adC ck []) H.size) U)) ∧ ∀ U : State, U.heap = H → s.WarmedH U.vm → va_Pc ([.int i, .int n, v].map (mm_v adC)) (fun U => U.heap.size = H.size ∧ va_P D vwCl (mm_w adC ck []) U.heap ∧ va_K D vwCl (mm_ty ck) U ∧ va_D (fun _ => True) (mm_w adC ck []) ∧ mm_N adC (va_A (mm_w adC ck []) H.size) U) ([.int i, .int n, v'] : List Value).toArray U := by
      refine ⟨fun a U g mk q => ?_, fun U hU hW => ⟨by rw [← hvv]; rfl, by rw [hU], fun k q h => by simp [mm_w] at h, va_K.moved hW.alike hF.2.2.2.2.2.2.2.1, ⟨fun i j p q h => by simp [mm_w] at h, fun k q h => by simp [mm_w] at h⟩, ?_⟩⟩
      · obtain ⟨q0, q1, q2, q3, q4, q5⟩ := q
        exact ⟨q0, q1, q2, va_K.moved (u := U) (U := U.calling g mk a) (Vm.Alike.refl U.vm) q3, q4, q5.same rfl rfl⟩
      · refine (hF.2.2.2.2.2.2.2.2.1).move hW (fun a h1 h2 => by rw [hU]; exact hS.2.1 a h1 h2) ?_ had
        rintro q (⟨k, e1, h⟩ | h)
        · simp [mm_w] at h
        · exact hF.2.2.2.2.2.2.2.2.2 q (Nat.le_trans hS.1 h)
    refine mm_after9 (va_runS (As := [.int i, .int n, v']) (rest := []) ⟨hF.1, hF.2.1, hF.2.2.1, hF.2.2.2.1, hF.2.2.2.2.1⟩ (ok_J3_checkIndex hv h0 h1 la D adC ck H.size)
      ⟨callB_of 3 hts (mm_ws_good hc5) rfl rfl rfl (hts _ hc4) (hts _ hc1) ⟨hc6, hc7, hc8⟩ ⟨Nat.le_of_ble_eq_true rfl, Nat.le_of_ble_eq_true rfl⟩, hts _ hc2⟩ ⟨hpre.1, hpre.2⟩
      rfl rfl hl.1 rfl (lv_room (by decide)) dJ0_checkIndex_df160_5 ⟨Nat.zero_le _, Nat.zero_le _⟩) hS hF.2.2.2.2.2.2.2.2.2 ?_
    rintro rv w H1 locs1 ⟨rfl, rfl⟩ hS1
    have h9 := hk.use (ad := ad) (H := H1) hF hFr (fun k q h => by simp [mm_w] at h) (mm_D_len rfl hD) hS1 hl
    exact h9
  rcases hF.2.2.2.2.2.2.2.2.1.2.2.2.2 with hz | ⟨t, hz⟩
  · exact va_gets (v := .null) hF.1 hF.2.1 hz hS hF.2.2.2.1 (hts _ sl_FORMAT) (fun _ h => h) dJ0_checkIndex_df160_2 (core .null .null ad (Or.inl rfl) (fun _ _ => rfl) rfl)
  · exact va_gets (v := .ref t) hF.1 hF.2.1 hz hS hF.2.2.2.1 (hts _ sl_FORMAT) (fun _ h => h) dJ0_checkIndex_df160_2 (core (.ref 999) (.ref t) (fun k => if k = 999 then t else ad k) (Or.inr rfl) (fun k hk => by rw [if_neg (by omega)]) (by simp [mm_v]))
/-- the char at k of the constant i -/
def mm_ch (i k : Nat) : Int32 := (mm_byt.getD i []).getD k 0 &&& 255
theorem mm_ch_all : ∀ i, i < 6 → ∀ k, k < 6 → ((mm_ch i k).toUInt32 % 65536).toInt32 = mm_ch i k ∧ narrow .char (.int (mm_ch i k)) = .int (mm_ch i k) := by decide +kernel
theorem ok_J1_charAt {i k : Nat} (hi : i < 6) (hk : k < mm_len.getD i 0) : mm_Ok mJ1_charAt_3b067 [.ref (2000 + i), .int (nI k)] [] (P_str (mm_ch i k)) := by
  have h6 := mm_len6 hi
  refine mm_Ok.of pn_J1 (l := [(0, .ref (2000 + i)), (1, .int (nI k))]) rfl (Nat.le_of_ble_eq_true rfl) ?_
  refine mm_iload_n 1 dJ1_charAt_3b067_0 rfl rfl (pc' := 1) rfl ?_
  refine mm_aload_n 0 dJ1_charAt_3b067_1 rfl rfl (pc' := 2) rfl ?_
  refine mm_lenValue hi dJ1_charAt_3b067_2 (pc' := 3) rfl ?_
  refine mm_callS (As := [.int (nI k), .int (nI (mm_len.getD i 0))]) (rest := []) (av := [.int (nI k), .int (nI (mm_len.getD i 0))]) (wc := []) (is := []) cS_J1_9 (ok_J0_checkIndex (nI_pos (by omega)) (nI_lt hk (by omega))) ⟨rfl, rfl, Nat.le_of_ble_eq_true rfl, Nat.le_of_ble_eq_true rfl⟩ dJ1_charAt_3b067_3 rfl rfl rfl ⟨rfl, rfl, by decide⟩ (by rintro _ _ ⟨-, rfl⟩; rfl) (by decide) ⟨Nat.zero_le _, Nat.zero_le _⟩ (pc' := 6) rfl ?_
  rintro rv w ⟨rfl, rfl⟩
  show mm_Wp _ _ _ _ 6 [(0, .ref (2000 + i)), (1, .int (nI k))] [] []
  refine mm_aload_n 0 dJ1_charAt_3b067_6 rfl rfl (pc' := 7) rfl ?_
  refine mm_iload_n 1 dJ1_charAt_3b067_7 rfl rfl (pc' := 8) rfl ?_
  refine mm_bald hi hk dJ1_charAt_3b067_8 (pc' := 9) rfl ?_
  refine mm_sipush dJ1_charAt_3b067_9 (by decide : _ = (255 : Int32)) (pc' := 12) rfl ?_
  refine mm_iand dJ1_charAt_3b067_12 (pc' := 13) rfl ?_
  refine mm_i2c (v := mm_ch i k) dJ1_charAt_3b067_13 (mm_ch_all i hi k (by omega)).1 (pc' := 14) rfl ?_
  exact mm_nret rfl (mm_ch_all i hi k (by omega)).2 dJ1_charAt_3b067_14 ⟨rfl, rfl⟩
theorem ok_J0_charAt {i k : Nat} (hi : i < 6) (hk : k < mm_len.getD i 0) : mm_Ok mJ0_charAt_5068e [.ref (1000 + i), .int (nI k)] [] (P_str (mm_ch i k)) := by
  have h6 := mm_len6 hi
  refine mm_Ok.of pn_J0 (l := [(0, .ref (1000 + i)), (1, .int (nI k))]) rfl (Nat.le_of_ble_eq_true rfl) ?_
  refine mm_aload_n 0 dJ0_charAt_5068e_0 rfl rfl (pc' := 1) rfl ?_
  refine mm_callStr (As := []) (rest := []) hi cV_J0_492 rfl (ok_J0_isLatin1 hi) (fun _ => rfl) ⟨rfl, rfl, Nat.le_of_ble_eq_true rfl, Nat.le_of_ble_eq_true rfl⟩ dJ0_charAt_5068e_1 rfl rfl P_str_len (Nat.le_of_ble_eq_true rfl) ⟨Nat.zero_le _, Nat.zero_le _⟩ (pc' := 4) rfl ?_
  rintro rv w ⟨rfl, rfl⟩
  refine mm_if_eq (tgt := 16) dJ0_charAt_5068e_4 (by decide) (pc' := 7) rfl (fun c => absurd c (by decide)) (fun c => ?_)
  refine mm_aload_n 0 dJ0_charAt_5068e_7 rfl rfl (pc' := 8) rfl ?_
  refine mm_getValue hi rfl dJ0_charAt_5068e_8 (pc' := 11) rfl ?_
  refine mm_iload_n 1 dJ0_charAt_5068e_11 rfl rfl (pc' := 12) rfl ?_
  refine mm_callS (As := [.ref (2000 + i), .int (nI k)]) (rest := []) (av := [.ref (2000 + i), .int (nI k)]) (wc := []) (is := []) cS_J0_495 (ok_J1_charAt hi hk) ⟨rfl, rfl, Nat.le_of_ble_eq_true rfl, Nat.le_of_ble_eq_true rfl⟩ dJ0_charAt_5068e_12 rfl (by simp [mm_v, mm_rn]; omega) rfl ⟨rfl, rfl, by decide⟩ (by rintro _ _ ⟨-, rfl⟩; rfl) (by decide) ⟨Nat.zero_le _, Nat.zero_le _⟩ (pc' := 15) rfl ?_
  rintro rv w ⟨rfl, rfl⟩
  show mm_Wp _ _ _ _ 15 [(0, .ref (1000 + i)), (1, .int (nI k))] [.int (mm_ch i k)] []
  exact mm_nret rfl (mm_ch_all i hi k (by omega)).2 dJ0_charAt_5068e_15 ⟨rfl, rfl⟩

section MMSTR2
variable {M M' : mm_M} {Fr : mm_T} {cs ss pc pc' ix n i b : Nat} {l : List (Nat × Value)} {st As rest : List Value} {ws : mm_W} {Post : Option Value → mm_W → Prop}
theorem mm_callStrV (hi : i < 6) (hb : b = 1000 + i) (hc : mm_cv M.1.cls ix M' n) (hcls : M'.1.cls = "java/lang/String") (hOk : mm_Ok M' (.ref (1000 + i) :: As) [] Post) (hAs : ∀ f, As.map (mm_v f) = As) (hroom : mm_room M M') (hd : decode M.2.1 pc = .ok (.invokevirtual ix, 3)) (hst : st = As.reverse ++ .ref b :: rest) (hn : As.length = n) (hlen : ∀ rv w, Post rv w → w = [] ∧ ∀ f, rv.map (mm_v f) = rv) (hrest : (rest.map fun v => v.category).sum ≤ 8) (hcs : cs ≤ M.2.2.2.2.cells ∧ ss ≤ M.2.2.2.2.slots) (hp : pc + 3 = pc')
    (kk : ∀ (rv : Option Value) (w : mm_W), Post rv w → mm_Wp M Fr cs ss pc' l (rv.toList ++ rest) ws) : mm_Wp M Fr cs ss pc l st ws := by
  subst hb
  exact mm_callStr hi hc hcls hOk hAs hroom hd hst hn hlen hrest hcs hp kk
theorem mm_ldcS {tx : String} (i : Nat) (hi : mm_cix[i]? = some (ix, tx)) (how : M.1.cls = "LitWindows$Plan") (hd : decode M.2.1 pc = .ok (.ldc ix, 2)) (hp : pc + 2 = pc') (kk : mm_Wp M Fr cs ss pc' l (.ref (1000 + i) :: rest) ws) : mm_Wp M Fr cs ss pc l rest ws := by
  subst hp
  intro p la e s m args below meth c D ad ck A H locs ls Q hF hFr hP hD hS hl
  have hN := hF.2.2.2.2.2.2.2.2.1.2.2.1 i _ hi
  exact va_ldcS (own := "LitWindows$Plan") hF.1 hF.2.1 (by rw [← how]; exact hF.2.2.2.1) hN hd (kk.use hF hFr hP hD hS hl)
end MMSTR2
def f_J0_length (n : Nat) : Option Int32 := if 1000 ≤ n ∧ n < 1006 then some (nI (mm_len.getD (n - 1000) 0)) else none
def f_J0_charAt (n : Nat) (k : Int32) : Option Int32 := if (1000 ≤ n ∧ n < 1006) ∧ mm_ib k (mm_len.getD (n - 1000) 0) = true then some (mm_ch (n - 1000) k.toNatClampNeg) else none
theorem ok_J0_lengthV {n : Nat} {t : Int32} (h : f_J0_length n = some t) : ∃ i, i < 6 ∧ n = 1000 + i ∧ mm_Ok mJ0_length_8abf5 [.ref (1000 + i)] [] (P_str t) := by
  unfold f_J0_length at h
  by_cases hn : 1000 ≤ n ∧ n < 1006
  · rw [if_pos hn] at h
    have h9 := Option.some.inj h
    subst h9
    exact ⟨n - 1000, by omega, by omega, ok_J0_length (by omega)⟩
  · rw [if_neg hn] at h
    cases h
theorem ok_J0_charAtV {n : Nat} {k t : Int32} (h : f_J0_charAt n k = some t) : ∃ i, i < 6 ∧ n = 1000 + i ∧ mm_Ok mJ0_charAt_5068e [.ref (1000 + i), .int k] [] (P_str t) := by
  unfold f_J0_charAt at h
  by_cases hn : (1000 ≤ n ∧ n < 1006) ∧ mm_ib k (mm_len.getD (n - 1000) 0) = true
  · rw [if_pos hn] at h
    have h9 := Option.some.inj h
    subst h9
    have h6 := mm_len6 (i := n - 1000) (by omega)
    obtain ⟨j, hj, rfl⟩ := vp_in_of (mm_ib_in hn.2) (by omega)
    refine ⟨n - 1000, by omega, by omega, ?_⟩
    rw [nI_clamp (by omega)]
    exact ok_J0_charAt (by omega) hj
  · rw [if_neg hn] at h
    cases h
theorem mm_lk_out {x : Int32} (c0 : ¬ x = 0) (c3 : ¬ x = 3) (c5 : ¬ x = 5) : Op.lookupswitch.offset [(0, 35), (3, 37), (5, 39)] 41 x.toInt = 41 := by
  have h0 : ¬ x.toInt = 0 := fun h => c0 (Int32.toInt_inj.mp (h.trans (by decide)))
  have h3 : ¬ x.toInt = 3 := fun h => c3 (Int32.toInt_inj.mp (h.trans (by decide)))
  have h5 : ¬ x.toInt = 5 := fun h => c5 (Int32.toInt_inj.mp (h.trans (by decide)))
  have g0 : ¬ (0 : Int) = x.toInt := fun h => h0 h.symm
  have g3 : ¬ (3 : Int) = x.toInt := fun h => h3 h.symm
  have g5 : ¬ (5 : Int) = x.toInt := fun h => h5 h.symm
  simp [Op.lookupswitch.offset, h0, h3, h5, g0, g3, g5]
