def mm_plain (M : mm_M) (n : Nat) : Prop := M.1.cls ≠ "java/lang/invoke/MethodHandle" ∧ M.1.cls ≠ "java/lang/invoke/VarHandle" ∧ (parseMethodDescriptor M.1.desc).map (fun d => d.parameters.length) = some n
/-- the tables' words for a call: virtual; static; static of a nest mate -/
def mm_cv (own : String) (ix : Nat) (M : mm_M) (n : Nat) : Prop := Cond.methodLink own ix M.1 ∈ mm_big ∧ Cond.instanceMethod M.1 ∈ mm_big ∧ Cond.selects M.1.cls M.1 M.1 ∈ mm_big ∧ Cond.initialized M.1.cls ∈ mm_big ∧ Cond.code M.1 M.2.1 M.2.2.1 M.2.2.2.1 ∈ mm_big ∧ mm_plain M n
def mm_cs (own : String) (ix : Nat) (M : mm_M) (n : Nat) : Prop := Cond.methodLink own ix M.1 ∈ mm_big ∧ Cond.static M.1 ∈ mm_big ∧ Cond.initialized M.1.cls ∈ mm_big ∧ Cond.code M.1 M.2.1 M.2.2.1 M.2.2.2.1 ∈ mm_big ∧ mm_plain M n
def mm_cn (own : String) (ix : Nat) (M : mm_M) (n : Nat) : Prop := (∃ host, (own, ix, M.1, host) ∈ mm_nest) ∧ Cond.static M.1 ∈ mm_big ∧ Cond.initialized M.1.cls ∈ mm_big ∧ Cond.code M.1 M.2.1 M.2.2.1 M.2.2.2.1 ∈ mm_big ∧ mm_plain M n
def mm_room (M M' : mm_M) : Prop := M'.2.2.2.2.cells = 0 ∧ M'.2.2.2.2.slots = 0 ∧ M'.2.2.2.2.frames + 1 ≤ M.2.2.2.2.frames ∧ 8 + (M'.2.2.1 + 11) + M'.2.2.2.2.locals ≤ M.2.2.2.2.locals
def mm_cutOk (ws wc : mm_W) (is : List Nat) : Prop := is.map (fun i => ws[i]?) = wc.map (fun e => some (mm_re (mm_rn is) e)) ∧ va_nd is = true ∧ is.length < 1000
section MMC
variable {M M' : mm_M} {Fr : mm_T} {cs ss pc pc' ix n b ci : Nat} {l : List (Nat × Value)} {st As av rest fs : List Value} {ws wc : mm_W} {is : List Nat} {Post : Option Value → mm_W → Prop}
theorem mm_after {p : Program} {la : Launch} {e : Env} {R : Room} {s : State} {m : MethodId} {args a : Array Value} {below : List Frame} {meth : Method} {c : Code} {D : va_G} {ad : Nat → Nat} {ck : Nat → ClassId} {A : Nat → Prop} {H : Heap} {locs : List Loc} {ls : Array Slot} {Q : State → Prop} {st0 rest0 : List Value}
    (hr : va_Run p la e R s m args below meth c H locs cs ss 0 0 (F0 m pc ls st0) rest0 (mm_Q Post D (fun k => ad (mm_rn is k)) ck (va_A (mm_w (fun k => ad (mm_rn is k)) ck wc) H.size) a) (va_A (mm_w (fun k => ad (mm_rn is k)) ck wc) H.size))
    (hP : va_P D vwCl (mm_w ad ck ws) H) (hD : va_D A (mm_w ad ck ws)) (hS : va_S A s.heap H locs) (hA : ∀ q, s.heap.size ≤ q → A q) (hcut : mm_cutOk ws wc is) (hlen : ∀ rv w, Post rv w → w.length = wc.length)
    (kk : ∀ (rv : Option Value) (w : mm_W) (H1 : Heap) (locs1 : List Loc), Post rv w → va_P D vwCl (mm_w ad ck (mm_paste ws is (w.map (mm_re (mm_rn is))))) H1 → va_D A (mm_w ad ck (mm_paste ws is (w.map (mm_re (mm_rn is))))) → va_S A s.heap H1 locs1 →
      W p la e R s m args below meth c H1 locs1 cs ss Q (F0 m (pc + 3) ls ((rv.map (mm_v (fun k => ad (mm_rn is k)))).toList ++ rest0))) : W p la e R s m args below meth c H locs cs ss Q (F0 m pc ls st0) := by
  intro T hT X
  have hFc := mm_af hD hS hA hcut.1 hcut.2.2
  obtain ⟨v, st₀, t, T', L, h0, X', hL, e1, e2, ⟨⟨rv, w, hv, hpost, hP1⟩, hz, hk⟩, st⟩ := hr T hT X
  cases hv
  rw [h0] at hz hk
  have hS1 : va_S A s.heap T'.heap (locs ++ L) := ⟨Nat.le_trans hS.1 (by rw [e1]; exact hz), fun q h1 h2 => by
      rw [e1, hk q (Nat.lt_of_lt_of_le h1 hS.1) (fun z => h2 (hFc q z))]
      exact hS.2.1 q h1 h2, fun q hq => by
      rcases List.mem_append.mp hq with h | h
      · exact hS.2.2 q h
      · exact hFc _ (hL q h)⟩
  obtain ⟨t2, a1, b1⟩ := kk rv w T'.heap (locs ++ L) hpost (by rw [e1]; exact mm_join hP hD hcut.1 hcut.2.1 hcut.2.2 (hlen _ _ hpost) hk hP1) (mm_D_len (mm_paste_len _ _ _) hD) hS1 T' rfl X'
  exact ⟨t2, st t2 a1, b1⟩
theorem mm_pre {p : Program} {s : State} {m : MethodId} {args : Array Value} {meth : Method} {c : Code} {D : va_G} {ad : Nat → Nat} {ck : Nat → ClassId} {A : Nat → Prop} {H : Heap} {locs : List Loc}
    (hF : mm_F M p s m args meth c D ad ck A) (hP : va_P D vwCl (mm_w ad ck ws) H) (hD : va_D A (mm_w ad ck ws)) (hS : va_S A s.heap H locs) (hcut : mm_cutOk ws wc is) {ar : List Value} (har : av.map (mm_v (fun k => ad (mm_rn is k))) = ar) :
    FrameBlind (va_Pc (av.map (mm_v (fun k => ad (mm_rn is k)))) (fun U => U.heap.size = H.size ∧ va_P D vwCl (mm_w (fun k => ad (mm_rn is k)) ck wc) U.heap ∧ va_K D vwCl (mm_ty ck) U ∧ va_D (fun _ => True) (mm_w (fun k => ad (mm_rn is k)) ck wc) ∧ mm_N (fun k => ad (mm_rn is k)) (va_A (mm_w (fun k => ad (mm_rn is k)) ck wc) H.size) U)) ∧
    ∀ U : State, U.heap = H → s.WarmedH U.vm → va_Pc (av.map (mm_v (fun k => ad (mm_rn is k)))) (fun U => U.heap.size = H.size ∧ va_P D vwCl (mm_w (fun k => ad (mm_rn is k)) ck wc) U.heap ∧ va_K D vwCl (mm_ty ck) U ∧ va_D (fun _ => True) (mm_w (fun k => ad (mm_rn is k)) ck wc) ∧ mm_N (fun k => ad (mm_rn is k)) (va_A (mm_w (fun k => ad (mm_rn is k)) ck wc) H.size) U) ar.toArray U := by
  obtain ⟨hx, hb, hml, hown, hts, hret, hlk, hK, hN, hA⟩ := hF
  subst har
  refine ⟨fun a U g mk q => ?_, fun U hU hW => ⟨rfl, by rw [hU], ?_, va_K.moved hW.alike hK, ?_, ?_⟩⟩
  · obtain ⟨q0, q1, q2, q3, q4, q5⟩ := q
    exact ⟨q0, q1, q2, va_K.moved (u := U) (U := U.calling g mk a) (Vm.Alike.refl U.vm) q3, q4, q5.same rfl rfl⟩
  · rw [hU]
    have h1 := mm_cut (ad := ad) (ck := ck) hcut.1 hcut.2.2
    intro k q hk
    have h2 : (is.map (fun i => (mm_w ad ck ws)[i]?))[k]? = some (some q) := by rw [h1, List.getElem?_map, hk]; rfl
    rw [List.getElem?_map] at h2
    cases h3 : is[k]? with
    | none => rw [h3] at h2; cases h2
    | some i => rw [h3] at h2; exact hP i q (Option.some.inj h2)
  · exact (hD.sub is hcut.2.1 (mm_cut hcut.1 hcut.2.2)).weaken (fun _ _ _ _ => trivial)
  · exact hN.move hW (fun a h1 h2 => by rw [hU]; exact hS.2.1 a h1 h2) (mm_af hD hS hA hcut.1 hcut.2.2) (fun i hi => by
      show ad (mm_rn is i) = ad i
      unfold mm_rn
      rw [if_neg (by omega)])
theorem mm_rest {ad : Nat → Nat} (h : (rest.map fun v => v.category).sum ≤ 8) : ((rest.map (mm_v ad)).map fun v => v.category).sum ≤ 8 := by
  have e1 : (rest.map (mm_v ad)).map (fun v => v.category) = rest.map fun v => v.category := by
    rw [List.map_map]
    apply List.map_congr_left
    intro v _
    exact mm_v_cat ad v
  rw [e1]; exact h
theorem mm_rv {ad : Nat → Nat} (rv : Option Value) : (rv.map (mm_v (fun k => ad (mm_rn is k)))).toList ++ rest.map (mm_v ad) = ((rv.map (mm_v (mm_rn is))).toList ++ rest).map (mm_v ad) := by
  cases rv with
  | none => rfl
  | some v => simp [mm_v_v]
theorem mm_callV (hc : mm_cv M.1.cls ix M' n) (hOk : mm_Ok M' av wc Post) (hroom : mm_room M M') (hd : decode M.2.1 pc = .ok (.invokevirtual ix, 3)) (hst : st = As.reverse ++ .ref b :: rest) (hav : av.map (mm_v (mm_rn is)) = .ref b :: As) (hn : As.length = n) (hb : ws[b]? = some (.inr (ci, fs))) (hci : (vwCl[ci]?).map (fun q => q.1) = some M'.1.cls) (hcut : mm_cutOk ws wc is) (hlen : ∀ rv w, Post rv w → w.length = wc.length) (hrest : (rest.map fun v => v.category).sum ≤ 8) (hcs : cs ≤ M.2.2.2.2.cells ∧ ss ≤ M.2.2.2.2.slots) (hp : pc + 3 = pc')
    (kk : ∀ (rv : Option Value) (w : mm_W), Post rv w → mm_Wp M Fr cs ss pc' l ((rv.map (mm_v (mm_rn is))).toList ++ rest) (mm_paste ws is (w.map (mm_re (mm_rn is))))) : mm_Wp M Fr cs ss pc l st ws := by
  subst hp; subst hst
  intro p la e s m args below meth c D ad ck A H locs ls Q hF hFr hP hD hS hl
  obtain ⟨hc1, hc2, hc3, hc4, hc5, hc6, hc7, hc8⟩ := hc
  obtain ⟨hr1, hr2, hr3, hr4⟩ := hroom
  have hgood : GoodIn mm_big (wsV M.1.cls ix M'.1.cls M'.1 (mm_ws M')) := by
    intro w hw
    rcases List.mem_append.mp hw with hw | hw
    · rcases List.mem_cons.mp hw with rfl | hw
      · exact mm_big_good _ hc1
      rcases List.mem_cons.mp hw with rfl | hw
      · exact mm_big_good _ hc2
      rcases List.mem_cons.mp hw with rfl | hw
      · exact mm_big_good _ hc3
      rcases List.mem_cons.mp hw with rfl | hw
      · exact mm_big_good _ hc4
      cases hw
    · exact mm_ws_good hc5 w hw
  have hav2 : av.map (mm_v (fun k => ad (mm_rn is k))) = .ref (ad b) :: As.map (mm_v ad) := by
    have := congrArg (List.map (mm_v ad)) hav
    rw [List.map_map] at this
    rw [show (fun k => ad (mm_rn is k)) = (fun k => ad (mm_rn is k)) from rfl]
    have e1 : (mm_v ad ∘ mm_v (mm_rn is)) = mm_v (fun k => ad (mm_rn is k)) := funext fun v => mm_v_v v
    rw [e1] at this
    exact this
  obtain ⟨q, hq1, hq2⟩ : ∃ q : vw_C, vwCl[ci]? = some q ∧ q.1 = M'.1.cls := by
    cases h : vwCl[ci]? with
    | none => rw [h] at hci; cases hci
    | some q => rw [h] at hci; exact ⟨q, rfl, Option.some.inj hci⟩
  have hpre := mm_pre (av := av) hF hP hD hS hcut hav2
  refine mm_after (va_runV (As := As.map (mm_v ad)) (rest := rest.map (mm_v ad)) (b := ad b) ⟨hF.1, hF.2.1, hF.2.2.1, hF.2.2.2.1, hF.2.2.2.2.1⟩ (hOk la D (fun k => ad (mm_rn is k)) ck H.size)
    (cwV n hF.2.2.2.2.1 hgood rfl hr1 hr2 ⟨rfl, hc6, hc7, hc8⟩ ⟨hr3, hr4⟩) ⟨hpre.1, by have := va_recv hF.2.2.2.2.2.2.2.1 hP hq1 (mm_w_at hb); rw [hq2] at this; exact this, hpre.2⟩
    rfl (by simp [hn]) hl.1 (by simp [F0, mm_v]) (lv_room (mm_rest hrest)) hd ⟨hcs.1, hcs.2⟩) hP hD hS hF.2.2.2.2.2.2.2.2.2 hcut hlen (fun rv w H1 locs1 hpost hP1 hD1 hS1 => ?_)
  rw [mm_rv]
  exact (kk rv w hpost).use hF hFr hP1 hD1 hS1 hl
theorem mm_callS (hc : mm_cs M.1.cls ix M' n) (hOk : mm_Ok M' av wc Post) (hroom : mm_room M M') (hd : decode M.2.1 pc = .ok (.invokestatic ix, 3)) (hst : st = As.reverse ++ rest) (hav : av.map (mm_v (mm_rn is)) = As) (hn : As.length = n) (hcut : mm_cutOk ws wc is) (hlen : ∀ rv w, Post rv w → w.length = wc.length) (hrest : (rest.map fun v => v.category).sum ≤ 8) (hcs : cs ≤ M.2.2.2.2.cells ∧ ss ≤ M.2.2.2.2.slots) (hp : pc + 3 = pc')
    (kk : ∀ (rv : Option Value) (w : mm_W), Post rv w → mm_Wp M Fr cs ss pc' l ((rv.map (mm_v (mm_rn is))).toList ++ rest) (mm_paste ws is (w.map (mm_re (mm_rn is))))) : mm_Wp M Fr cs ss pc l st ws := by
  subst hp; subst hst
  intro p la e s m args below meth c D ad ck A H locs ls Q hF hFr hP hD hS hl
  obtain ⟨hc1, hc2, hc4, hc5, hc6, hc7, hc8⟩ := hc
  obtain ⟨hr1, hr2, hr3, hr4⟩ := hroom
  have hav2 : av.map (mm_v (fun k => ad (mm_rn is k))) = As.map (mm_v ad) := by
    have := congrArg (List.map (mm_v ad)) hav
    rw [List.map_map] at this
    have e1 : (mm_v ad ∘ mm_v (mm_rn is)) = mm_v (fun k => ad (mm_rn is k)) := funext fun v => mm_v_v v
    rw [e1] at this
    exact this
  have hpre := mm_pre (av := av) hF hP hD hS hcut hav2
  have hts := hF.2.2.2.2.1
  refine mm_after (va_runS (As := As.map (mm_v ad)) (rest := rest.map (mm_v ad)) ⟨hF.1, hF.2.1, hF.2.2.1, hF.2.2.2.1, hF.2.2.2.2.1⟩ (hOk la D (fun k => ad (mm_rn is k)) ck H.size)
    ⟨callB_of n hts (mm_ws_good hc5) rfl hr1 hr2 (hts _ hc4) (hts _ hc1) ⟨hc6, hc7, hc8⟩ ⟨hr3, hr4⟩, hts _ hc2⟩ ⟨hpre.1, hpre.2⟩
    rfl (by simp [hn]) hl.1 (by simp [F0]) (lv_room (mm_rest hrest)) hd ⟨hcs.1, hcs.2⟩) hP hD hS hF.2.2.2.2.2.2.2.2.2 hcut hlen (fun rv w H1 locs1 hpost hP1 hD1 hS1 => ?_)
  rw [mm_rv]
  exact (kk rv w hpost).use hF hFr hP1 hD1 hS1 hl
theorem mm_callSN (hc : mm_cn M.1.cls ix M' n) (hOk : mm_Ok M' av wc Post) (hroom : mm_room M M') (hd : decode M.2.1 pc = .ok (.invokestatic ix, 3)) (hst : st = As.reverse ++ rest) (hav : av.map (mm_v (mm_rn is)) = As) (hn : As.length = n) (hcut : mm_cutOk ws wc is) (hlen : ∀ rv w, Post rv w → w.length = wc.length) (hrest : (rest.map fun v => v.category).sum ≤ 8) (hcs : cs ≤ M.2.2.2.2.cells ∧ ss ≤ M.2.2.2.2.slots) (hp : pc + 3 = pc')
    (kk : ∀ (rv : Option Value) (w : mm_W), Post rv w → mm_Wp M Fr cs ss pc' l ((rv.map (mm_v (mm_rn is))).toList ++ rest) (mm_paste ws is (w.map (mm_re (mm_rn is))))) : mm_Wp M Fr cs ss pc l st ws := by
  subst hp; subst hst
  intro p la e s m args below meth c D ad ck A H locs ls Q hF hFr hP hD hS hl
  obtain ⟨⟨host, hc1⟩, hc2, hc4, hc5, hc6, hc7, hc8⟩ := hc
  obtain ⟨hr1, hr2, hr3, hr4⟩ := hroom
  have hav2 : av.map (mm_v (fun k => ad (mm_rn is k))) = As.map (mm_v ad) := by
    have := congrArg (List.map (mm_v ad)) hav
    rw [List.map_map] at this
    have e1 : (mm_v ad ∘ mm_v (mm_rn is)) = mm_v (fun k => ad (mm_rn is k)) := funext fun v => mm_v_v v
    rw [e1] at this
    exact this
  have hpre := mm_pre (av := av) hF hP hD hS hcut hav2
  have hts := hF.2.2.2.2.1
  have hNn := hF.2.2.2.2.2.2.2.2.1.1 _ hc1
  refine mm_after (va_runSN (As := As.map (mm_v ad)) (rest := rest.map (mm_v ad)) (host := host) ⟨hF.1, hF.2.1, hF.2.2.1, hF.2.2.2.1, hF.2.2.2.2.1⟩ (hOk la D (fun k => ad (mm_rn is k)) ck H.size)
    ⟨va_cnB n hts (mm_ws_good hc5) rfl hr1 hr2 hNn (hts _ hc4) ⟨hc6, hc7, hc8⟩ ⟨hr3, hr4⟩, hts _ hc2, trivial⟩ ⟨hpre.1, hpre.2⟩
    rfl (by simp [hn]) hl.1 (by simp [F0]) (lv_room (mm_rest hrest)) hd ⟨hcs.1, hcs.2⟩) hP hD hS hF.2.2.2.2.2.2.2.2.2 hcut hlen (fun rv w H1 locs1 hpost hP1 hD1 hS1 => ?_)
  rw [mm_rv]
  exact (kk rv w hpost).use hF hFr hP1 hD1 hS1 hl
/-! the callee's world is the caller's own -/
theorem mm_after0 {p : Program} {la : Launch} {e : Env} {R : Room} {s : State} {m : MethodId} {args a : Array Value} {below : List Frame} {meth : Method} {c : Code} {D : va_G} {ad : Nat → Nat} {ck : Nat → ClassId} {A : Nat → Prop} {H : Heap} {locs : List Loc} {ls : Array Slot} {Q : State → Prop} {st0 rest0 : List Value}
    (hr : va_Run p la e R s m args below meth c H locs cs ss 0 0 (F0 m pc ls st0) rest0 (mm_Q Post D ad ck (va_A (mm_w ad ck ws) H.size) a) (va_A (mm_w ad ck ws) H.size))
    (hD : va_D A (mm_w ad ck ws)) (hS : va_S A s.heap H locs) (hA : ∀ q, s.heap.size ≤ q → A q) (hlen : ∀ rv w, Post rv w → w.length = ws.length)
    (kk : ∀ (rv : Option Value) (w : mm_W) (H1 : Heap) (locs1 : List Loc), Post rv w → va_P D vwCl (mm_w ad ck w) H1 → va_D A (mm_w ad ck w) → va_S A s.heap H1 locs1 →
      W p la e R s m args below meth c H1 locs1 cs ss Q (F0 m (pc + 3) ls ((rv.map (mm_v ad)).toList ++ rest0))) : W p la e R s m args below meth c H locs cs ss Q (F0 m pc ls st0) := by
  intro T hT X
  have hFc : ∀ q, va_A (mm_w ad ck ws) H.size q → A q := by
    rintro q (⟨k, e1, h⟩ | h)
    · exact hD.2 k _ h
    · exact hA q (Nat.le_trans hS.1 h)
  obtain ⟨v, st₀, t, T', L, h0, X', hL, e1, e2, ⟨⟨rv, w, hv, hpost, hP1⟩, hz, hk⟩, st⟩ := hr T hT X
  cases hv
  rw [h0] at hz hk
  have hS1 : va_S A s.heap T'.heap (locs ++ L) := ⟨Nat.le_trans hS.1 (by rw [e1]; exact hz), fun q h1 h2 => by
      rw [e1, hk q (Nat.lt_of_lt_of_le h1 hS.1) (fun z => h2 (hFc q z))]
      exact hS.2.1 q h1 h2, fun q hq => by
      rcases List.mem_append.mp hq with h | h
      · exact hS.2.2 q h
      · exact hFc _ (hL q h)⟩
  obtain ⟨t2, a1, b1⟩ := kk rv w T'.heap (locs ++ L) hpost (by rw [e1]; exact hP1) (mm_D_len (hlen _ _ hpost) hD) hS1 T' rfl X'
  exact ⟨t2, st t2 a1, b1⟩
theorem mm_pre0 {p : Program} {s : State} {m : MethodId} {args : Array Value} {meth : Method} {c : Code} {D : va_G} {ad : Nat → Nat} {ck : Nat → ClassId} {A : Nat → Prop} {H : Heap} {locs : List Loc}
    (hF : mm_F M p s m args meth c D ad ck A) (hP : va_P D vwCl (mm_w ad ck ws) H) (hD : va_D A (mm_w ad ck ws)) (hS : va_S A s.heap H locs) {ar : List Value} (har : av.map (mm_v ad) = ar) :
    FrameBlind (va_Pc (av.map (mm_v ad)) (fun U => U.heap.size = H.size ∧ va_P D vwCl (mm_w ad ck ws) U.heap ∧ va_K D vwCl (mm_ty ck) U ∧ va_D (fun _ => True) (mm_w ad ck ws) ∧ mm_N ad (va_A (mm_w ad ck ws) H.size) U)) ∧
    ∀ U : State, U.heap = H → s.WarmedH U.vm → va_Pc (av.map (mm_v ad)) (fun U => U.heap.size = H.size ∧ va_P D vwCl (mm_w ad ck ws) U.heap ∧ va_K D vwCl (mm_ty ck) U ∧ va_D (fun _ => True) (mm_w ad ck ws) ∧ mm_N ad (va_A (mm_w ad ck ws) H.size) U) ar.toArray U := by
  obtain ⟨hx, hb, hml, hown, hts, hret, hlk, hK, hN, hA⟩ := hF
  subst har
  refine ⟨fun a U g mk q => ?_, fun U hU hW => ⟨rfl, by rw [hU], by rw [hU]; exact hP, va_K.moved hW.alike hK, hD.weaken (fun _ _ _ _ => trivial), ?_⟩⟩
  · obtain ⟨q0, q1, q2, q3, q4, q5⟩ := q
    exact ⟨q0, q1, q2, va_K.moved (u := U) (U := U.calling g mk a) (Vm.Alike.refl U.vm) q3, q4, q5.same rfl rfl⟩
  · refine hN.move hW (fun a h1 h2 => by rw [hU]; exact hS.2.1 a h1 h2) ?_ (fun i hi => rfl)
    rintro q (⟨k, e1, h⟩ | h)
    · exact hD.2 k _ h
    · exact hA q (Nat.le_trans hS.1 h)
theorem mm_rv0 {ad : Nat → Nat} (rv : Option Value) : (rv.map (mm_v ad)).toList ++ rest.map (mm_v ad) = (rv.toList ++ rest).map (mm_v ad) := by
  cases rv with
  | none => rfl
  | some v => rfl
theorem mm_call0 (hc : mm_cv M.1.cls ix M' n) (hOk : mm_Ok M' (.ref b :: As) ws Post) (hroom : mm_room M M') (hd : decode M.2.1 pc = .ok (.invokevirtual ix, 3)) (hst : st = As.reverse ++ .ref b :: rest) (hn : As.length = n) (hb : ws[b]? = some (.inr (ci, fs))) (hci : (vwCl[ci]?).map (fun q => q.1) = some M'.1.cls) (hlen : ∀ rv w, Post rv w → w.length = ws.length) (hrest : (rest.map fun v => v.category).sum ≤ 8) (hcs : cs ≤ M.2.2.2.2.cells ∧ ss ≤ M.2.2.2.2.slots) (hp : pc + 3 = pc')
    (kk : ∀ (rv : Option Value) (w : mm_W), Post rv w → mm_Wp M Fr cs ss pc' l (rv.toList ++ rest) w) : mm_Wp M Fr cs ss pc l st ws := by
  subst hp; subst hst
  intro p la e s m args below meth c D ad ck A H locs ls Q hF hFr hP hD hS hl
  obtain ⟨hc1, hc2, hc3, hc4, hc5, hc6, hc7, hc8⟩ := hc
  obtain ⟨hr1, hr2, hr3, hr4⟩ := hroom
  have hgood : GoodIn mm_big (wsV M.1.cls ix M'.1.cls M'.1 (mm_ws M')) := by
    intro w hw
    rcases List.mem_append.mp hw with hw | hw
    · rcases List.mem_cons.mp hw with rfl | hw
      · exact mm_big_good _ hc1
      rcases List.mem_cons.mp hw with rfl | hw
      · exact mm_big_good _ hc2
      rcases List.mem_cons.mp hw with rfl | hw
      · exact mm_big_good _ hc3
      rcases List.mem_cons.mp hw with rfl | hw
      · exact mm_big_good _ hc4
      cases hw
    · exact mm_ws_good hc5 w hw
  obtain ⟨q, hq1, hq2⟩ : ∃ q : vw_C, vwCl[ci]? = some q ∧ q.1 = M'.1.cls := by
    cases h : vwCl[ci]? with
    | none => rw [h] at hci; cases hci
    | some q => rw [h] at hci; exact ⟨q, rfl, Option.some.inj hci⟩
  have hpre := mm_pre0 (av := .ref b :: As) hF hP hD hS rfl
  refine mm_after0 (va_runV (As := As.map (mm_v ad)) (rest := rest.map (mm_v ad)) (b := ad b) ⟨hF.1, hF.2.1, hF.2.2.1, hF.2.2.2.1, hF.2.2.2.2.1⟩ (hOk la D ad ck H.size)
    (cwV n hF.2.2.2.2.1 hgood rfl hr1 hr2 ⟨rfl, hc6, hc7, hc8⟩ ⟨hr3, hr4⟩) ⟨hpre.1, by have := va_recv hF.2.2.2.2.2.2.2.1 hP hq1 (mm_w_at hb); rw [hq2] at this; exact this, hpre.2⟩
    rfl (by simp [hn]) hl.1 (by simp [F0, mm_v]) (lv_room (mm_rest hrest)) hd ⟨hcs.1, hcs.2⟩) hD hS hF.2.2.2.2.2.2.2.2.2 hlen (fun rv w H1 locs1 hpost hP1 hD1 hS1 => ?_)
  rw [mm_rv0]
  exact (kk rv w hpost).use hF hFr hP1 hD1 hS1 hl
/-! array copies -/
theorem mm_copyi {a0 a n0 n1 : Nat} {f g : Nat → Int32} {sp dp k : Int32} {sp1 dp1 k1 : Nat} {ws' : mm_W} (hlink : Cond.methodLink M.1.cls ix arraycopyName ∈ mm_big ∧ Cond.native arraycopyName ∈ mm_big ∧ Cond.static arraycopyName ∈ mm_big ∧ Cond.initialized "java/lang/System" ∈ mm_big) (hd : decode M.2.1 pc = .ok (.invokestatic ix, 3)) (ha0 : ws[a0]? = some (.inl (0, n0, .inl f))) (ha : ws[a]? = some (.inl (0, n1, .inl g))) (h1 : ¬ sp < 0) (h2 : ¬ dp < 0) (h3 : ¬ k < 0) (hsp : sp.toNatClampNeg = sp1) (hdp : dp.toNatClampNeg = dp1) (hk1 : k.toNatClampNeg = k1) (h4 : sp1 + k1 ≤ n0) (h5 : dp1 + k1 ≤ n1) (hf1 : 1 ≤ M.2.2.2.2.frames) (hf2 : (rest.map fun v => v.category).sum + (nativeFrameWords "java/lang/System" "arraycopy" 5 + 11) ≤ M.2.2.2.2.locals) (hw : ws.set a (.inl (0, n1, .inl (va_cpy f g sp1 dp1 k1))) = ws') (hp : pc + 3 = pc')
    (kk : mm_Wp M Fr cs ss pc' l rest ws') : mm_Wp M Fr cs ss pc l (.int k :: .int dp :: .ref a :: .int sp :: .ref a0 :: rest) ws := by
  subst hsp; subst hdp; subst hk1; subst hp; subst hw
  intro p la e s m args below meth c D ad ck A H locs ls Q hF hFr hP hD hS hl
  have hts := hF.2.2.2.2.1
  have hr2 : ((rest.map (mm_v ad)).map fun v => v.category).sum = (rest.map fun v => v.category).sum := by
    rw [List.map_map]
    congr 1
    apply List.map_congr_left
    intro v _
    exact mm_v_cat ad v
  refine va_copyi hF.1 hF.2.1 (hF.2.2.1.trans hl.1.symm) hF.2.2.2.1 (hts _ hlink.1) (hts _ hlink.2.1) (hts _ hlink.2.2.1) (hts _ hlink.2.2.2) hF.2.2.2.2.2.2.2.1 hP hD hS a0 a 0 0 (ty := .int) (mm_w_at ha0) (mm_w_at ha) rfl rfl rfl h1 h2 h3 h4 h5 (fun _ _ => rfl) hf1 (by rw [hr2]; exact hf2) hd (fun H1 locs1 hP1 hD1 hS1 => ?_)
  have e1 : (mm_w ad ck ws).set a (ad a, .inl (ck 0, n1, .inl (va_cpy f g sp.toNatClampNeg dp.toNatClampNeg k.toNatClampNeg))) = mm_w ad ck (ws.set a (.inl (0, n1, .inl (va_cpy f g sp.toNatClampNeg dp.toNatClampNeg k.toNatClampNeg)))) := by
    rw [← mm_w_set]; rfl
  exact kk.use hF hFr (e1 ▸ hP1) (e1 ▸ hD1) hS1 hl
theorem mm_copyl {a0 a n0 n1 : Nat} {f g : Nat → Int64} {sp dp k : Int32} {sp1 dp1 k1 : Nat} {ws' : mm_W} (hlink : Cond.methodLink M.1.cls ix arraycopyName ∈ mm_big ∧ Cond.native arraycopyName ∈ mm_big ∧ Cond.static arraycopyName ∈ mm_big ∧ Cond.initialized "java/lang/System" ∈ mm_big) (hd : decode M.2.1 pc = .ok (.invokestatic ix, 3)) (ha0 : ws[a0]? = some (.inl (1, n0, .inr (.inl f)))) (ha : ws[a]? = some (.inl (1, n1, .inr (.inl g)))) (h1 : ¬ sp < 0) (h2 : ¬ dp < 0) (h3 : ¬ k < 0) (hsp : sp.toNatClampNeg = sp1) (hdp : dp.toNatClampNeg = dp1) (hk1 : k.toNatClampNeg = k1) (h4 : sp1 + k1 ≤ n0) (h5 : dp1 + k1 ≤ n1) (hf1 : 1 ≤ M.2.2.2.2.frames) (hf2 : (rest.map fun v => v.category).sum + (nativeFrameWords "java/lang/System" "arraycopy" 5 + 11) ≤ M.2.2.2.2.locals) (hw : ws.set a (.inl (1, n1, .inr (.inl (va_cpy f g sp1 dp1 k1)))) = ws') (hp : pc + 3 = pc')
    (kk : mm_Wp M Fr cs ss pc' l rest ws') : mm_Wp M Fr cs ss pc l (.int k :: .int dp :: .ref a :: .int sp :: .ref a0 :: rest) ws := by
  subst hsp; subst hdp; subst hk1; subst hp; subst hw
  intro p la e s m args below meth c D ad ck A H locs ls Q hF hFr hP hD hS hl
  have hts := hF.2.2.2.2.1
  have hr2 : ((rest.map (mm_v ad)).map fun v => v.category).sum = (rest.map fun v => v.category).sum := by
    rw [List.map_map]
    congr 1
    apply List.map_congr_left
    intro v _
    exact mm_v_cat ad v
  refine va_copyl hF.1 hF.2.1 (hF.2.2.1.trans hl.1.symm) hF.2.2.2.1 (hts _ hlink.1) (hts _ hlink.2.1) (hts _ hlink.2.2.1) (hts _ hlink.2.2.2) hF.2.2.2.2.2.2.2.1 hP hD hS a0 a 1 1 (ty := .long) (mm_w_at ha0) (mm_w_at ha) rfl rfl rfl h1 h2 h3 h4 h5 (fun _ _ => rfl) hf1 (by rw [hr2]; exact hf2) hd (fun H1 locs1 hP1 hD1 hS1 => ?_)
  have e1 : (mm_w ad ck ws).set a (ad a, .inl (ck 1, n1, .inr (.inl (va_cpy f g sp.toNatClampNeg dp.toNatClampNeg k.toNatClampNeg)))) = mm_w ad ck (ws.set a (.inl (1, n1, .inr (.inl (va_cpy f g sp.toNatClampNeg dp.toNatClampNeg k.toNatClampNeg))))) := by
    rw [← mm_w_set]; rfl
  exact kk.use hF hFr (e1 ▸ hP1) (e1 ▸ hD1) hS1 hl
end MMC
/-! switches, and the pieces of a method's function -/
section MMS
variable {M : mm_M} {Fr : mm_T} {cs ss pc pc' : Nat} {l l' : List (Nat × Value)} {rest : List Value} {ws ws' : mm_W}
theorem mm_tswIn {dflt lo hi : Int} {offs : Array Int} {len : Nat} {x : Int32} {off : Int} {tgt : Nat} (k : Int32) (hx : x = k) (hd : decode M.2.1 pc = .ok (.tableswitch dflt lo hi offs, len)) (h1 : ¬ k.toInt < lo) (h2 : ¬ hi < k.toInt) (ho : offs[(k.toInt - lo).toNat]? = some off) (ht : (pc : Int) + off = (tgt : Int)) (kk : mm_Wp M Fr cs ss tgt l rest ws) : mm_Wp M Fr cs ss pc l (.int x :: rest) ws := by
  subst hx
  exact mm_tableIn hd h1 h2 ho ht kk
theorem mm_tsw_out {x : Int32} {lo N : Nat} (L : List Int32) (hL : ∀ n, n < N → Int32.ofNat (lo + n) ∈ L) (h : ∀ k ∈ L, ¬ x = k) : x.toInt < (lo : Int) ∨ (lo : Int) + N - 1 < x.toInt := by
  by_cases h1 : x.toInt < lo
  · exact Or.inl h1
  by_cases h2 : (lo : Int) + N - 1 < x.toInt
  · exact Or.inr h2
  exfalso
  have h3 : (x.toInt.toNat - lo) < N := by omega
  refine h _ (hL _ h3) ?_
  have h4 : lo + (x.toInt.toNat - lo) = x.toInt.toNat := by omega
  rw [h4]
  apply Int32.toInt_inj.mp
  have h5 : x.toInt.toNat < 2 ^ 31 := by have := Int32.toInt_lt x; omega
  have h6 := nI_toInt h5
  unfold nI at h6
  rw [h6]
  omega
theorem mm_tswOut {dflt lo hi : Int} {offs : Array Int} {len : Nat} {x : Int32} {tgt : Nat} (lo' N : Nat) (L : List Int32) (hL : ∀ n, n < N → Int32.ofNat (lo' + n) ∈ L) (h : ∀ k ∈ L, ¬ x = k) (hd : decode M.2.1 pc = .ok (.tableswitch dflt lo hi offs, len)) (hlo : lo = lo') (hhi : hi = (lo' : Int) + N - 1) (ht : (pc : Int) + dflt = (tgt : Int)) (kk : mm_Wp M Fr cs ss tgt l rest ws) : mm_Wp M Fr cs ss pc l (.int x :: rest) ws := by
  subst hlo; subst hhi
  exact mm_tableOut hd (mm_tsw_out L hL h) ht kk
theorem mm_fa {x a : Int32} {L : List Int32} (h : ¬ x = a) (t : ∀ k ∈ L, ¬ x = k) : ∀ k ∈ a :: L, ¬ x = k := List.forall_mem_cons.mpr ⟨h, t⟩
theorem mm_f0 {x : Int32} : ∀ k ∈ ([] : List Int32), ¬ x = k := fun _ h => absurd h List.not_mem_nil
theorem mm_topi {x : Int32} (kk : ∀ y : Int32, y = x → mm_Wp M Fr cs ss pc l (.int y :: rest) ws) : mm_Wp M Fr cs ss pc l (.int x :: rest) ws := kk x rfl
theorem mm_topl {x : Int64} (kk : ∀ y : Int64, y = x → mm_Wp M Fr cs ss pc l (.long y :: rest) ws) : mm_Wp M Fr cs ss pc l (.long x :: rest) ws := kk x rfl
theorem mm_aaldK {a n b : Nat} {f : Nat → Option Nat} {i : Int32} (k : Int32) (hi : i = k) (hd : decode M.2.1 pc = .ok (.aaload, 1)) (ha : ws[a]? = some (.inl (3, n, .inr (.inr (.inr (.inr f)))))) (hin : vp_in k n) (hb : f k.toNatClampNeg = some b) (hp : pc + 1 = pc') (kk : mm_Wp M Fr cs ss pc' l (.ref b :: rest) ws) : mm_Wp M Fr cs ss pc l (.int i :: .ref a :: rest) ws := by
  subst hi
  exact mm_aald hd ha hin hb hp kk
end MMS
def mm_let {α β : Type} (e : α) (f : α → Option β) : Option β := f e
theorem mm_let_of {α β : Type} {e : α} {f : α → Option β} {r : Option β} (h : mm_let e f = r) (y : α) (hy : y = e) : f y = r := by subst hy; exact h
/-- i is a place of n -/
def mm_ib (i : Int32) (n : Nat) : Bool := !(decide (i < 0) || decide (n ≤ i.toNatClampNeg))
theorem mm_ib_in {i : Int32} {n : Nat} (h : mm_ib i n = true) : vp_in i n := by
  intro h2
  rcases h2 with h2 | h2 <;> simp [mm_ib, h2] at h
def mm_rd {α β : Type} (f : Nat → α) (n : Nat) (i : Int32) (k : α → Option β) : Option β := if mm_ib i n = true then k (f i.toNatClampNeg) else none
theorem mm_rd_of {α β : Type} {f : Nat → α} {n : Nat} {i : Int32} {k : α → Option β} {r : β} (h : mm_rd f n i k = some r) : ∃ x, vp_in i n ∧ f i.toNatClampNeg = x ∧ k x = some r := by
  unfold mm_rd at h
  by_cases hi : mm_ib i n = true
  · rw [if_pos hi] at h
    exact ⟨_, mm_ib_in hi, rfl, h⟩
  · rw [if_neg hi] at h
    cases h
def mm_ck {β : Type} (n : Nat) (i : Int32) (k : Option β) : Option β := if mm_ib i n = true then k else none
theorem mm_ck_of {β : Type} {n : Nat} {i : Int32} {k : Option β} {r : β} (h : mm_ck n i k = some r) : vp_in i n ∧ k = some r := by
  unfold mm_ck at h
  by_cases hi : mm_ib i n = true
  · rw [if_pos hi] at h
    exact ⟨mm_ib_in hi, h⟩
  · rw [if_neg hi] at h
    cases h
def mm_gd {β : Type} (c : Bool) (k : Option β) : Option β := if c = true then k else none
theorem mm_gd_of {β : Type} {c : Bool} {k : Option β} {r : β} (h : mm_gd c k = some r) : c = true ∧ k = some r := by
  unfold mm_gd at h
  by_cases hi : c = true
  · rw [if_pos hi] at h
    exact ⟨hi, h⟩
  · rw [if_neg hi] at h
    cases h
theorem mm_bd {α β : Type} {a : Option α} {k : α → Option β} {r : β} (h : a.bind k = some r) : ∃ t, a = some t ∧ k t = some r := Option.bind_eq_some_iff.mp h
theorem mm_it {c : Prop} {d : Decidable c} {α : Type} {a b r : α} (h : @ite α c d a b = r) (hc : c) : a = r := by rw [← h, if_pos hc]
theorem mm_if {c : Prop} {d : Decidable c} {α : Type} {a b r : α} (h : @ite α c d a b = r) (hc : ¬ c) : b = r := by rw [← h, if_neg hc]
def mm_zb (x : Int32) : Bool := decide (x = 0) || decide (x = 1)
theorem mm_in_l (l : List Cond) (ps : List Nat) (h : l = ps.filterMap (fun i => lw_tbl[i]?)) (g : l.all goodWord = true) : ∀ w ∈ l, w ∈ mm_big := by
  intro w hw
  refine List.mem_filter.mpr ⟨?_, List.all_eq_true.mp g w hw⟩
  rw [h] at hw
  obtain ⟨i, -, hi⟩ := List.mem_filterMap.mp hw
  exact List.mem_of_getElem? hi
theorem mm_zb_of {x : Int32} (h : mm_zb x = true) : x = 0 ∨ x = 1 := by
  simpa [mm_zb] using h
