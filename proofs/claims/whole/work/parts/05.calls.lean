def mm_plain (M : mm_M) (n : Nat) : Prop := M.1.cls ≠ "java/lang/invoke/MethodHandle" ∧ M.1.cls ≠ "java/lang/invoke/VarHandle" ∧ (parseMethodDescriptor M.1.desc).map (fun d => d.parameters.length) = some n
/-- the tables' words for a call: virtual; static; static of a nest mate -/
def mm_cv (own : String) (ix : Nat) (M : mm_M) (n : Nat) : Prop := Cond.methodLink own ix M.1 ∈ mm_big ∧ Cond.instanceMethod M.1 ∈ mm_big ∧ Cond.selects M.1.cls M.1 M.1 ∈ mm_big ∧ Cond.initialized M.1.cls ∈ mm_big ∧ Cond.code M.1 M.2.1 M.2.2.1 M.2.2.2.1 ∈ mm_big ∧ mm_plain M n
def mm_cs (own : String) (ix : Nat) (M : mm_M) (n : Nat) : Prop := Cond.methodLink own ix M.1 ∈ mm_big ∧ Cond.static M.1 ∈ mm_big ∧ Cond.initialized M.1.cls ∈ mm_big ∧ Cond.code M.1 M.2.1 M.2.2.1 M.2.2.2.1 ∈ mm_big ∧ mm_plain M n
def mm_cn (own : String) (ix : Nat) (M : mm_M) (n : Nat) : Prop := (∃ host, (own, ix, M.1, host) ∈ mm_nest) ∧ Cond.static M.1 ∈ mm_big ∧ Cond.initialized M.1.cls ∈ mm_big ∧ Cond.code M.1 M.2.1 M.2.2.1 M.2.2.2.1 ∈ mm_big ∧ mm_plain M n
def mm_room (M M' : mm_M) : Prop := M'.2.2.2.2.cells = 0 ∧ M'.2.2.2.2.slots = 0 ∧ M'.2.2.2.2.frames + 1 ≤ M.2.2.2.2.frames ∧ 8 + (M'.2.2.1 + 11) + M'.2.2.2.2.locals ≤ M.2.2.2.2.locals
def mm_cutOk (ws wc : mm_W) (is : List Nat) : Prop := is.map (fun i => ws[i]?) = wc.map (fun e => some (mm_re (mm_rn is) e)) ∧ va_nd is = true ∧ is.length < 1000
section MMC
variable {M M' : mm_M} {Fr : mm_T} {cs ss pc pc' ix n b ci : Nat} {l : List (Nat × Value)} {st As av rest fs : List Value} {ws wc : mm_W} {is : List Nat} {Post : Option Value → mm_W → Prop}
theorem mm_after {p : Program} {la : Launch} {e : Env} {R : Room} {s : State} {m : MethodId} {args a : Array Value} {below : List Frame} {meth : Method} {c : Code} {D : va_G} {ad : Nat → Nat} {ck : Nat → ClassId} {A : Nat → Prop} {H : Heap} {locs : List Loc} {ls : Array Slot} {Q : State → Prop} {st0 rest0 : List Value}
    (hr : va_Run p la e R s m args below meth c H locs cs ss 0 0 (F0 m pc ls st0) rest0 (mm_Q Post D (fun k => ad (mm_rn is k)) ck (va_A (mm_w (fun k => ad (mm_rn is k)) ck wc) H.size) a) (va_A (mm_w (fun k => ad (mm_rn is k)) ck wc) H.size))
    (hP : va_P D vwCl (mm_w ad ck ws) H) (hD : va_D A (mm_w ad ck ws)) (hS : va_S A s.heap H locs) (hA : ∀ q, s.heap.size ≤ q → A q) (hcut : mm_cutOk ws wc is) (hlen : ∀ rv w, Post rv w → w.length = wc.length)
    (kk : ∀ (rv : Option Value) (w : mm_W) (H1 : Heap) (locs1 : List Loc), Post rv w → va_P D vwCl (mm_w ad ck (mm_paste ws is (w.map (mm_re (mm_rn is))))) H1 → va_D A (mm_w ad ck (mm_paste ws is (w.map (mm_re (mm_rn is))))) → va_S A s.heap H1 locs1 →
      W p la e R s m args below meth c H1 locs1 cs ss Q (F0 m (pc + 3) ls ((rv.map (mm_v (fun k => ad (mm_rn is k)))).toList ++ rest0))) : W p la e R s m args below meth c H locs cs ss Q (F0 m pc ls st0) := by
  intro T hT X
  have hFc := mm_af hD hS hA hcut.1 hcut.2.2
  obtain ⟨v, st₀, t, T', L, h0, X', hL, e1, e2, ⟨⟨rv, w, hv, hpost, hP1⟩, hz, hk⟩, st⟩ := hr T hT X
  cases hv
  rw [h0] at hz hk
  have hS1 : va_S A s.heap T'.heap (locs ++ L) := ⟨Nat.le_trans hS.1 (by rw [e1]; exact hz), fun q h1 h2 => by
      rw [e1, hk q (Nat.lt_of_lt_of_le h1 hS.1) (fun z => h2 (hFc q z))]
      exact hS.2.1 q h1 h2, fun q hq => by
      rcases List.mem_append.mp hq with h | h
      · exact hS.2.2 q h
      · exact hFc _ (hL q h)⟩
  obtain ⟨t2, a1, b1⟩ := kk rv w T'.heap (locs ++ L) hpost (by rw [e1]; exact mm_join hP hD hcut.1 hcut.2.1 hcut.2.2 (hlen _ _ hpost) hk hP1) (mm_D_len (mm_paste_len _ _ _) hD) hS1 T' rfl X'
  exact ⟨t2, st t2 a1, b1⟩
theorem mm_pre {p : Program} {s : State} {m : MethodId} {args : Array Value} {meth : Method} {c : Code} {D : va_G} {ad : Nat → Nat} {ck : Nat → ClassId} {A : Nat → Prop} {H : Heap} {locs : List Loc}
    (hF : mm_F M p s m args meth c D ad ck A) (hP : va_P D vwCl (mm_w ad ck ws) H) (hD : va_D A (mm_w ad ck ws)) (hS : va_S A s.heap H locs) (hcut : mm_cutOk ws wc is) {ar : List Value} (har : av.map (mm_v (fun k => ad (mm_rn is k))) = ar) :
    FrameBlind (va_Pc (av.map (mm_v (fun k => ad (mm_rn is k)))) (fun U => U.heap.size = H.size ∧ va_P D vwCl (mm_w (fun k => ad (mm_rn is k)) ck wc) U.heap ∧ va_K D vwCl (mm_ty ck) U ∧ va_D (fun _ => True) (mm_w (fun k => ad (mm_rn is k)) ck wc) ∧ mm_N (fun k => ad (mm_rn is k)) (va_A (mm_w (fun k => ad (mm_rn is k)) ck wc) H.size) U)) ∧
    ∀ U : State, U.heap = H → s.WarmedH U.vm → va_Pc (av.map (mm_v (fun k => ad (mm_rn is k)))) (fun U => U.heap.size = H.size ∧ va_P D vwCl (mm_w (fun k => ad (mm_rn is k)) ck wc) U.heap ∧ va_K D vwCl (mm_ty ck) U ∧ va_D (fun _ => True) (mm_w (fun k => ad (mm_rn is k)) ck wc) ∧ mm_N (fun k => ad (mm_rn is k)) (va_A (mm_w (fun k => ad (mm_rn is k)) ck wc) H.size) U) ar.toArray U := by
  obtain ⟨hx, hb, hml, hown, hts, hret, hlk, hK, hN, hA⟩ := hF
  subst har
  refine ⟨fun a U g mk q => ?_, fun U hU hW => ⟨rfl, by rw [hU], ?_, va_K.moved hW.alike hK, ?_, ?_⟩⟩
  · obtain ⟨q0, q1, q2, q3, q4, q5⟩ := q
    exact ⟨q0, q1, q2, va_K.moved (u := U) (U := U.calling g mk a) (Vm.Alike.refl U.vm) q3, q4, q5.same rfl rfl⟩
  · rw [hU]
    have h1 := mm_cut (ad := ad) (ck := ck) hcut.1 hcut.2.2
    intro k q hk
    have h2 : (is.map (fun i => (mm_w ad ck ws)[i]?))[k]? = some (some q) := by rw [h1, List.getElem?_map, hk]; rfl
    rw [List.getElem?_map] at h2
    cases h3 : is[k]? with
    | none => rw [h3] at h2; cases h2
    | some i => rw [h3] at h2; exact hP i q (Option.some.inj h2)
  · exact (hD.sub is hcut.2.1 (mm_cut hcut.1 hcut.2.2)).weaken (fun _ _ _ _ => trivial)
  · exact hN.move hW (fun a h1 h2 => by rw [hU]; exact hS.2.1 a h1 h2) (mm_af hD hS hA hcut.1 hcut.2.2) (fun i hi => by
      show ad (mm_rn is i) = ad i
      unfold mm_rn
      rw [if_neg (by omega)])
theorem mm_rest {ad : Nat → Nat} (h : (rest.map fun v => v.category).sum ≤ 8) : ((rest.map (mm_v ad)).map fun v => v.category).sum ≤ 8 := by
  have e1 : (rest.map (mm_v ad)).map (fun v => v.category) = rest.map fun v => v.category := by
    rw [List.map_map]
    apply List.map_congr_left
    intro v _
    exact mm_v_cat ad v
  rw [e1]; exact h
theorem mm_rv {ad : Nat → Nat} (rv : Option Value) : (rv.map (mm_v (fun k => ad (mm_rn is k)))).toList ++ rest.map (mm_v ad) = ((rv.map (mm_v (mm_rn is))).toList ++ rest).map (mm_v ad) := by
  cases rv with
  | none => rfl
  | some v => simp [mm_v_v]
theorem mm_callV (hc : mm_cv M.1.cls ix M' n) (hOk : mm_Ok M' av wc Post) (hroom : mm_room M M') (hd : decode M.2.1 pc = .ok (.invokevirtual ix, 3)) (hst : st = As.reverse ++ .ref b :: rest) (hav : av.map (mm_v (mm_rn is)) = .ref b :: As) (hn : As.length = n) (hb : ws[b]? = some (.inr (ci, fs))) (hci : (vwCl[ci]?).map (fun q => q.1) = some M'.1.cls) (hcut : mm_cutOk ws wc is) (hlen : ∀ rv w, Post rv w → w.length = wc.length) (hrest : (rest.map fun v => v.category).sum ≤ 8) (hcs : cs ≤ M.2.2.2.2.cells ∧ ss ≤ M.2.2.2.2.slots) (hp : pc + 3 = pc')
    (kk : ∀ (rv : Option Value) (w : mm_W), Post rv w → mm_Wp M Fr cs ss pc' l ((rv.map (mm_v (mm_rn is))).toList ++ rest) (mm_paste ws is (w.map (mm_re (mm_rn is))))) : mm_Wp M Fr cs ss pc l st ws := by
  subst hp; subst hst
  intro p la e s m args below meth c D ad ck A H locs ls Q hF hFr hP hD hS hl
  obtain ⟨hc1, hc2, hc3, hc4, hc5, hc6, hc7, hc8⟩ := hc
  obtain ⟨hr1, hr2, hr3, hr4⟩ := hroom
  have hgood : GoodIn mm_big (wsV M.1.cls ix M'.1.cls M'.1 (mm_ws M')) := by
    intro w hw
    rcases List.mem_append.mp hw with hw | hw
    · rcases List.mem_cons.mp hw with rfl | hw
      · exact mm_big_good _ hc1
      rcases List.mem_cons.mp hw with rfl | hw
      · exact mm_big_good _ hc2
      rcases List.mem_cons.mp hw with rfl | hw
      · exact mm_big_good _ hc3
      rcases List.mem_cons.mp hw with rfl | hw
      · exact mm_big_good _ hc4
      cases hw
    · exact mm_ws_good hc5 w hw
  have hav2 : av.map (mm_v (fun k => ad (mm_rn is k))) = .ref (ad b) :: As.map (mm_v ad) := by
    have := congrArg (List.map (mm_v ad)) hav
    rw [List.map_map] at this
    rw [show (fun k => ad (mm_rn is k)) = (fun k => ad (mm_rn is k)) from rfl]
    have e1 : (mm_v ad ∘ mm_v (mm_rn is)) = mm_v (fun k => ad (mm_rn is k)) := funext fun v => mm_v_v v
    rw [e1] at this
    exact this
  obtain ⟨q, hq1, hq2⟩ : ∃ q : vw_C, vwCl[ci]? = some q ∧ q.1 = M'.1.cls := by
    cases h : vwCl[ci]? with
    | none => rw [h] at hci; cases hci
    | some q => rw [h] at hci; exact ⟨q, rfl, Option.some.inj hci⟩
  have hpre := mm_pre (av := av) hF hP hD hS hcut hav2
  refine mm_after (va_runV (As := As.map (mm_v ad)) (rest := rest.map (mm_v ad)) (b := ad b) ⟨hF.1, hF.2.1, hF.2.2.1, hF.2.2.2.1, hF.2.2.2.2.1⟩ (hOk la D (fun k => ad (mm_rn is k)) ck H.size)
    (cwV n hF.2.2.2.2.1 hgood rfl hr1 hr2 ⟨rfl, hc6, hc7, hc8⟩ ⟨hr3, hr4⟩) ⟨hpre.1, by have := va_recv hF.2.2.2.2.2.2.2.1 hP hq1 (mm_w_at hb); rw [hq2] at this; exact this, hpre.2⟩
    rfl (by simp [hn]) hl.1 (by simp [F0, mm_v]) (lv_room (mm_rest hrest)) hd ⟨hcs.1, hcs.2⟩) hP hD hS hF.2.2.2.2.2.2.2.2.2 hcut hlen (fun rv w H1 locs1 hpost hP1 hD1 hS1 => ?_)
  rw [mm_rv]
  exact kk rv w hpost hF hFr hP1 hD1 hS1 hl
theorem mm_callS (hc : mm_cs M.1.cls ix M' n) (hOk : mm_Ok M' av wc Post) (hroom : mm_room M M') (hd : decode M.2.1 pc = .ok (.invokestatic ix, 3)) (hst : st = As.reverse ++ rest) (hav : av.map (mm_v (mm_rn is)) = As) (hn : As.length = n) (hcut : mm_cutOk ws wc is) (hlen : ∀ rv w, Post rv w → w.length = wc.length) (hrest : (rest.map fun v => v.category).sum ≤ 8) (hcs : cs ≤ M.2.2.2.2.cells ∧ ss ≤ M.2.2.2.2.slots) (hp : pc + 3 = pc')
    (kk : ∀ (rv : Option Value) (w : mm_W), Post rv w → mm_Wp M Fr cs ss pc' l ((rv.map (mm_v (mm_rn is))).toList ++ rest) (mm_paste ws is (w.map (mm_re (mm_rn is))))) : mm_Wp M Fr cs ss pc l st ws := by
  subst hp; subst hst
  intro p la e s m args below meth c D ad ck A H locs ls Q hF hFr hP hD hS hl
  obtain ⟨hc1, hc2, hc4, hc5, hc6, hc7, hc8⟩ := hc
  obtain ⟨hr1, hr2, hr3, hr4⟩ := hroom
  have hav2 : av.map (mm_v (fun k => ad (mm_rn is k))) = As.map (mm_v ad) := by
    have := congrArg (List.map (mm_v ad)) hav
    rw [List.map_map] at this
    have e1 : (mm_v ad ∘ mm_v (mm_rn is)) = mm_v (fun k => ad (mm_rn is k)) := funext fun v => mm_v_v v
    rw [e1] at this
    exact this
  have hpre := mm_pre (av := av) hF hP hD hS hcut hav2
  have hts := hF.2.2.2.2.1
  refine mm_after (va_runS (As := As.map (mm_v ad)) (rest := rest.map (mm_v ad)) ⟨hF.1, hF.2.1, hF.2.2.1, hF.2.2.2.1, hF.2.2.2.2.1⟩ (hOk la D (fun k => ad (mm_rn is k)) ck H.size)
    ⟨callB_of n hts (mm_ws_good hc5) rfl hr1 hr2 (hts _ hc4) (hts _ hc1) ⟨hc6, hc7, hc8⟩ ⟨hr3, hr4⟩, hts _ hc2⟩ ⟨hpre.1, hpre.2⟩
    rfl (by simp [hn]) hl.1 (by simp [F0]) (lv_room (mm_rest hrest)) hd ⟨hcs.1, hcs.2⟩) hP hD hS hF.2.2.2.2.2.2.2.2.2 hcut hlen (fun rv w H1 locs1 hpost hP1 hD1 hS1 => ?_)
  rw [mm_rv]
  exact kk rv w hpost hF hFr hP1 hD1 hS1 hl
theorem mm_callSN (hc : mm_cn M.1.cls ix M' n) (hOk : mm_Ok M' av wc Post) (hroom : mm_room M M') (hd : decode M.2.1 pc = .ok (.invokestatic ix, 3)) (hst : st = As.reverse ++ rest) (hav : av.map (mm_v (mm_rn is)) = As) (hn : As.length = n) (hcut : mm_cutOk ws wc is) (hlen : ∀ rv w, Post rv w → w.length = wc.length) (hrest : (rest.map fun v => v.category).sum ≤ 8) (hcs : cs ≤ M.2.2.2.2.cells ∧ ss ≤ M.2.2.2.2.slots) (hp : pc + 3 = pc')
    (kk : ∀ (rv : Option Value) (w : mm_W), Post rv w → mm_Wp M Fr cs ss pc' l ((rv.map (mm_v (mm_rn is))).toList ++ rest) (mm_paste ws is (w.map (mm_re (mm_rn is))))) : mm_Wp M Fr cs ss pc l st ws := by
  subst hp; subst hst
  intro p la e s m args below meth c D ad ck A H locs ls Q hF hFr hP hD hS hl
  obtain ⟨⟨host, hc1⟩, hc2, hc4, hc5, hc6, hc7, hc8⟩ := hc
  obtain ⟨hr1, hr2, hr3, hr4⟩ := hroom
  have hav2 : av.map (mm_v (fun k => ad (mm_rn is k))) = As.map (mm_v ad) := by
    have := congrArg (List.map (mm_v ad)) hav
    rw [List.map_map] at this
    have e1 : (mm_v ad ∘ mm_v (mm_rn is)) = mm_v (fun k => ad (mm_rn is k)) := funext fun v => mm_v_v v
    rw [e1] at this
    exact this
  have hpre := mm_pre (av := av) hF hP hD hS hcut hav2
  have hts := hF.2.2.2.2.1
  have hNn := hF.2.2.2.2.2.2.2.2.1.1 _ hc1
  refine mm_after (va_runSN (As := As.map (mm_v ad)) (rest := rest.map (mm_v ad)) (host := host) ⟨hF.1, hF.2.1, hF.2.2.1, hF.2.2.2.1, hF.2.2.2.2.1⟩ (hOk la D (fun k => ad (mm_rn is k)) ck H.size)
    ⟨va_cnB n hts (mm_ws_good hc5) rfl hr1 hr2 hNn (hts _ hc4) ⟨hc6, hc7, hc8⟩ ⟨hr3, hr4⟩, hts _ hc2, trivial⟩ ⟨hpre.1, hpre.2⟩
    rfl (by simp [hn]) hl.1 (by simp [F0]) (lv_room (mm_rest hrest)) hd ⟨hcs.1, hcs.2⟩) hP hD hS hF.2.2.2.2.2.2.2.2.2 hcut hlen (fun rv w H1 locs1 hpost hP1 hD1 hS1 => ?_)
  rw [mm_rv]
  exact kk rv w hpost hF hFr hP1 hD1 hS1 hl
end MMC
