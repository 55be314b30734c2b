def va_AOA (t : FieldType) (U : State) : Prop := (Cond.arrayOver (.array t)).before #[] U = true
theorem va_AOA.of {t : FieldType} {A : Array Value} {U : State} (h : (Cond.arrayOver (.array t)).before A U = true) : va_AOA t U := h
theorem va_AOA.use {t : FieldType} {A : Array Value} {U : State} (h : va_AOA t U) : (Cond.arrayOver (.array t)).before A U = true := h
theorem va_AOA.moved {t : FieldType} {u U : State} (hvm : u.vm.Alike U.vm) (h : va_AOA t u) : va_AOA t U := over_moved hvm h
/-! ===== BEGIN new T[n][m]: the outer array a place, the inner ones among the pooled ===== -/
/-- f, but v at every address of l -/
def vr_up {α : Type} (f : Nat → α) (l : List Nat) (v : α) : Nat → α := fun a => if a ∈ l then v else f a
theorem vr_up_in {α : Type} {f : Nat → α} {l : List Nat} {v : α} {a : Nat} (h : a ∈ l) : vr_up f l v a = v := if_pos h
theorem vr_up_ne {α : Type} {f : Nat → α} {l : List Nat} {v : α} {a : Nat} (h : a ∉ l) : vr_up f l v a = f a := if_neg h
theorem vr_rows {L l : List Nat} {f : Nat → va_E} {e : va_E} (h : ∀ a, a ∈ l → a ∉ L) : va_pl L f ++ l.map (fun a => (a, e)) = va_pl (L ++ l) (vr_up f l e) := by
  unfold va_pl
  rw [List.map_append]
  congr 1
  · apply List.map_congr_left
    intro a ha
    rw [vr_up_ne (fun q => h a q ha)]
  · apply List.map_congr_left
    intro a ha
    rw [vr_up_in ha]
theorem vr_lay {X rows : va_W} {x : Nat × va_E} {pl : va_W} {D : va_G} {cl : List vw_C} {H : Heap} (hP : va_P D cl (((X ++ pl) ++ [x]) ++ rows) H) : va_P D cl ((X ++ [x]) ++ (pl ++ rows)) H := by
  rw [List.append_assoc (X ++ pl)] at hP
  have h := va_P.swap hP
  rw [← List.append_assoc X] at h
  have h2 := va_P.swap h
  rw [List.append_assoc (X ++ [x])] at h2
  exact h2
theorem vr_layD {X rows : va_W} {x : Nat × va_E} {pl : va_W} {A : Nat → Prop} (hD : va_D A (((X ++ pl) ++ [x]) ++ rows)) : va_D A ((X ++ [x]) ++ (pl ++ rows)) := by
  rw [List.append_assoc (X ++ pl)] at hD
  have h := va_D.swap hD
  rw [← List.append_assoc X] at h
  have h2 := va_D.swap h
  rw [List.append_assoc (X ++ [x])] at h2
  exact h2
theorem vr_outer (c : ClassId) (N h0 : Nat) : ∀ i : Nat, Jvm.Free.Multi.outerC c N h0 i = arrV c N (fun j => va_rf (if j < i then some (h0 + 1 + j) else none))
  | 0 => by
    show ({ cls := c, slots := Array.replicate N .null, vm := .none } : Cell) = _
    rw [arrV_new]
    refine congrArg (arrV c N) (funext fun j => ?_)
    simp [va_rf]
  | i + 1 => by
    show (Jvm.Free.Multi.outerC c N h0 i).setSlot i (.ref (h0 + 1 + i)) = _
    rw [vr_outer c N h0 i, arrV_store]
    refine congrArg (arrV c N) (funext fun j => ?_)
    by_cases e : j = i
    · subst e
      simp [updV, va_rf]
    · by_cases h : j < i
      · simp [updV, e, h, Nat.lt_succ_of_lt h]
      · simp [updV, e, h, show ¬ j < i + 1 by omega]
section VGM
variable {p : Program} {l : Launch} {e : Env} {R : Room} {s : State} {m : MethodId} {args : Array Value} {below : List Frame} {meth : Method} {c : Code} {H : Heap} {locs : List Loc} {cells slots : Nat} {Q : State → Prop}
variable {cc : ByteArray} {pc : Nat} {ls : Array Slot} {rest : List Value} {D : va_G} {cl : List vw_C} {A : Nat → Prop} {a : Nat} {tys : List (ClassId × FieldType)} {ws : va_W} {H0 : Heap}
theorem va_mna {X : va_W} {L : List Nat} {f : Nat → va_E} {cc : ByteArray} (hexec : p.tables.exec = Jvm.exec) (hb : c.code = cc) {own : String} {index : Nat} {ty : FieldType} {cy : ClassId} (hown : s.vm.findClass own = some m.cls) (hclink : (Cond.classLink own index ("[" ++ (FieldType.array ty).toString)).before args s = true) (hover : va_AOA ty s) (harr : (Cond.arrayClass ty).before args s = true) (hcy : s.vm.findClass (FieldType.array ty).toString = some cy)
    (hK : va_K D cl tys s) (hP : va_P D cl (X ++ va_pl L f) H) (hD : va_D A (X ++ va_pl L f)) (hS : va_S A H0 H locs) (hA : ∀ q, H0.size ≤ q → A q) {n k : Int32} {N' K' : Nat} {z : vp_A} (hn : ¬ n < 0) (hk : ¬ k < 0) (hN : n.toNatClampNeg = N') (hM : k.toNatClampNeg = K')
    (hb1 : N' * 4 ≤ 536870912) (hb2 : K' * componentBytes ty ≤ 536870912) (hb3 : K' ≤ 536870912) (hdf : fits ty (defaultValue ty) = true) (hdd : (defaultValue ty).isDefault = true) (hcells : cells + (1 + N') ≤ R.cells) (hslots : slots + (N' + N' * K') ≤ R.slots) (hz : ∀ c : ClassId, Jvm.Free.Multi.innerC c K' (defaultValue ty) = vp_cell c z) (hdg : decode cc pc = .ok (.multianewarray index 2, 4))
    (kk : ∀ (q : Nat) (r : Nat → Nat) (cA : ClassId) (H1 : Heap), (∀ i j : Nat, i < N' → j < N' → r i = r j → i = j) → (∀ i : Nat, i < N' → r i ∉ L) → va_K D cl (tys ++ [(cA, .array ty)]) s →
      va_P D cl ((X ++ [(q, .inl (cA, N', .inr (.inr (.inr (.inr (fun i => if i < N' then some (r i) else none))))))]) ++ va_pl (L ++ (List.range N').map r) (vr_up f ((List.range N').map r) (.inl (cy, z)))) H1 → va_D A ((X ++ [(q, .inl (cA, N', .inr (.inr (.inr (.inr (fun i => if i < N' then some (r i) else none))))))]) ++ va_pl (L ++ (List.range N').map r) (vr_up f ((List.range N').map r) (.inl (cy, z)))) → va_S A H0 H1 locs →
      W p l e R s m args below meth c H1 locs (cells + 1 + N') (slots + N' + N' * K') Q (F0 m (pc + 4) ls (.ref q :: rest))) : W p l e R s m args below meth c H locs cells slots Q (F0 m pc ls (.int k :: .int n :: rest)) := by
  subst hN
  subst hM
  intro T hT Xs
  obtain ⟨vm₁, cA, comp, -, fA, fC, hO, -, X', step⟩ := Xs.multianewarray2F hexec hown hclink (va_AOA.use hover) harr (g := F0 m pc ls (.int k :: .int n :: rest)) rfl (by rw [hb]; exact hdg) rfl hn hk hb1 hb2 hb3 hdf hdd hcells hslots
  have ec : some cy = some comp := hcy.symm.trans fC
  cases ec
  generalize hF : Jvm.Free.Multi.fill (T.setVm vm₁) cA cy n.toNatClampNeg k.toNatClampNeg (defaultValue ty) n.toNatClampNeg = F at X' step
  have hTh : (T.setVm vm₁).heap = H := hT
  obtain ⟨f1, f2, -, -⟩ := Jvm.Free.Multi.fill_facts (T.setVm vm₁) cA cy n.toNatClampNeg k.toNatClampNeg (defaultValue ty) n.toNatClampNeg
  rw [hF, hTh] at f1 f2
  have hold : ∀ x : Nat, x < H.size → F.heap[x]? = H[x]? := fun x hx => by
    have := Jvm.Free.Multi.fill_old (T.setVm vm₁) cA cy n.toNatClampNeg k.toNatClampNeg (defaultValue ty) (a := x) (by rw [hTh]; exact hx) n.toNatClampNeg
    rw [hF, hTh] at this
    exact this
  have hrow : ∀ j : Nat, j < n.toNatClampNeg → F.heap[H.size + 1 + j]? = some (vp_cell cy z) := fun j hj => by
    have := Jvm.Free.Multi.fill_inner (T.setVm vm₁) cA cy n.toNatClampNeg k.toNatClampNeg (defaultValue ty) n.toNatClampNeg j hj
    rw [hF, hTh, hz] at this
    exact this
  have hout : Jvm.Free.Multi.outerC cA n.toNatClampNeg H.size n.toNatClampNeg = vp_cell cA (n.toNatClampNeg, .inr (.inr (.inr (.inr (fun i => if i < n.toNatClampNeg then some (H.size + 1 + i) else none))))) := by
    rw [vp_cell_q]
    exact vr_outer cA n.toNatClampNeg H.size n.toNatClampNeg
  rw [hout] at f2
  have hlt : ∀ a, a ∈ L → a < H.size := fun a ha => by
    obtain ⟨k9, hk9⟩ := va_pl_get (X := X) (f := f) ha
    exact (hP k9 _ hk9).lt
  have hnl : ∀ i : Nat, i < n.toNatClampNeg → H.size + 1 + i ∉ L := fun i _ h => by
    have := hlt _ h
    omega
  have hnm : ∀ a, a ∈ (List.range n.toNatClampNeg).map (fun i => H.size + 1 + i) → a ∉ L := fun a ha h => by
    obtain ⟨i, -, rfl⟩ := List.mem_map.mp ha
    have := hlt _ h
    omega
  have hP0 : va_P D cl (X ++ va_pl L f) F.heap := hP.kept (fun k9 x hx => hold x.1 ((hP k9 x hx).lt))
  have hP1 : va_P D cl ((X ++ va_pl L f) ++ [(H.size, .inl (cA, n.toNatClampNeg, .inr (.inr (.inr (.inr (fun i => if i < n.toNatClampNeg then some (H.size + 1 + i) else none))))))]) F.heap := hP0.app (fun k9 x hx => by
    have h0 : k9 < 1 := (List.getElem?_eq_some_iff.mp hx).1
    rw [show k9 = 0 by omega] at hx
    cases hx
    exact f2)
  have hP2 : va_P D cl (((X ++ va_pl L f) ++ [(H.size, .inl (cA, n.toNatClampNeg, .inr (.inr (.inr (.inr (fun i => if i < n.toNatClampNeg then some (H.size + 1 + i) else none))))))]) ++ ((List.range n.toNatClampNeg).map (fun i => H.size + 1 + i)).map (fun a => (a, .inl (cy, z)))) F.heap := hP1.app (fun k9 x hx => by
    obtain ⟨a, ha, rfl⟩ := List.mem_map.mp (List.mem_of_getElem? hx)
    obtain ⟨i, hi, rfl⟩ := List.mem_map.mp ha
    exact hrow i (List.mem_range.mp hi))
  have hD2 : va_D A (((X ++ va_pl L f) ++ [(H.size, .inl (cA, n.toNatClampNeg, .inr (.inr (.inr (.inr (fun i => if i < n.toNatClampNeg then some (H.size + 1 + i) else none))))))]) ++ ((List.range n.toNatClampNeg).map (fun i => H.size + 1 + i)).map (fun a => (a, .inl (cy, z)))) := by
    have hD1 := hD.push (e := .inl (cA, n.toNatClampNeg, .inr (.inr (.inr (.inr (fun i => if i < n.toNatClampNeg then some (H.size + 1 + i) else none)))))) hP rfl (hA _ hS.1)
    generalize hW1 : (X ++ va_pl L f) ++ [(H.size, .inl (cA, n.toNatClampNeg, .inr (.inr (.inr (.inr (fun i => if i < n.toNatClampNeg then some (H.size + 1 + i) else none))))))] = W1 at hD1 hP1 ⊢
    have hle : ∀ (k9 : Nat) (x : Nat × va_E), W1[k9]? = some x → x.1 ≤ H.size := fun k9 x hx => by
      rw [← hW1] at hx
      by_cases hl : k9 < (X ++ va_pl L f).length
      · rw [List.getElem?_append_left hl] at hx
        exact Nat.le_of_lt ((hP k9 x hx).lt)
      · rw [List.getElem?_append_right (by omega)] at hx
        have h0 : k9 - (X ++ va_pl L f).length < 1 := (List.getElem?_eq_some_iff.mp hx).1
        rw [show k9 - (X ++ va_pl L f).length = 0 by omega] at hx
        cases hx
        exact Nat.le_refl _
    have hr : ∀ (k9 : Nat) (x : Nat × va_E), (((List.range n.toNatClampNeg).map (fun i => H.size + 1 + i)).map (fun a => ((a, .inl (cy, z)) : Nat × va_E)))[k9]? = some x → x.1 = H.size + 1 + k9 := fun k9 x hx => by
      rw [List.getElem?_map, List.getElem?_map] at hx
      by_cases h9 : k9 < n.toNatClampNeg
      · rw [List.getElem?_range h9] at hx
        cases hx
        rfl
      · have hn0 : (List.range n.toNatClampNeg)[k9]? = none := List.getElem?_eq_none (by rw [List.length_range]; omega)
        rw [hn0] at hx
        cases hx
    refine ⟨fun i j x y hi hj hxy => ?_, fun k9 x hx => ?_⟩
    · by_cases h1 : i < W1.length <;> by_cases h2 : j < W1.length
      · rw [List.getElem?_append_left h1] at hi
        rw [List.getElem?_append_left h2] at hj
        exact hD1.1 i j x y hi hj hxy
      · rw [List.getElem?_append_left h1] at hi
        rw [List.getElem?_append_right (by omega)] at hj
        have := hle _ _ hi
        have := hr _ _ hj
        omega
      · rw [List.getElem?_append_right (by omega)] at hi
        rw [List.getElem?_append_left h2] at hj
        have := hle _ _ hj
        have := hr _ _ hi
        omega
      · rw [List.getElem?_append_right (by omega)] at hi hj
        have := hr _ _ hi
        have := hr _ _ hj
        omega
    · by_cases h1 : k9 < W1.length
      · rw [List.getElem?_append_left h1] at hx
        exact hD1.2 k9 x hx
      · rw [List.getElem?_append_right (by omega)] at hx
        have := hr _ _ hx
        exact hA _ (by have := hS.1; omega)
  have hAr : ArrOfT s cA (.array ty) := fun N9 z9 => by
    obtain ⟨-, k9, hk9, cm9, hkk9⟩ := (hO 0 0 0).1
    exact ⟨(fun q hq => by cases hq), k9, hk9, cm9, hkk9⟩
  have hK2 : va_K D cl (tys ++ [(cA, .array ty)]) s := ⟨hK.1, fun k9 x hx => by
    by_cases hl : k9 < tys.length
    · rw [List.getElem?_append_left hl] at hx
      exact hK.2 k9 x hx
    · rw [List.getElem?_append_right (by omega)] at hx
      have h0 : k9 - tys.length < 1 := (List.getElem?_eq_some_iff.mp hx).1
      rw [show k9 - tys.length = 0 by omega] at hx
      cases hx
      exact ⟨hAr, fA⟩⟩
  obtain ⟨t, a1, b1⟩ := kk H.size (fun i => H.size + 1 + i) cA F.heap (fun i j _ _ h => by have h9 : H.size + 1 + i = H.size + 1 + j := h; omega) hnl hK2 (by rw [← vr_rows hnm]; exact vr_lay hP2) (by rw [← vr_rows hnm]; exact vr_layD hD2) ⟨by rw [f1]; have := hS.1; omega, fun x h1 h2 => (hold x (Nat.lt_of_lt_of_le h1 hS.1)).trans (hS.2.1 x h1 h2), hS.2.2⟩ F rfl X'
  refine ⟨t, step t ?_, b1⟩
  have e : T.heap.size = H.size := by rw [hT]
  rw [e]
  exact a1
end VGM

/-- a constructor: its object is place 0; what it makes comes behind -/
def mm_QI (Post : mm_W → Prop) (D : va_G) (ad0 : Nat → Nat) (ck : Nat → ClassId) (n0 : Nat) (A : Nat → Prop) : Array Value → State → Outcome → State → Prop := fun _ st oc t =>
  (∃ (ad2 : Nat → Nat) (w : mm_W), oc = .returned none ∧ mm_ag n0 ad0 ad2 ∧ Post w ∧ va_P D vwCl (mm_w ad2 ck w) t.heap ∧ va_D A (mm_w ad2 ck w)) ∧ va_F A st t
def mm_RI (Post : mm_W → Prop) (n0 mc ms : Nat) : mm_T := fun _ _ _ s _ args below meth D ad ck A Q => meth.name = "<init>" ∧ va_AOA .int s ∧ ∃ ad0, mm_ag n0 ad0 ad ∧ Q = MQ below (mm_QI Post D ad0 ck n0 A) args s mc ms A
def mm_OkI (M : mm_M) (ws : mm_W) (Post : mm_W → Prop) (mc ms : Nat) : Prop :=
  ∀ (la : Launch) (D : va_G) (ad : Nat → Nat) (ck : Nat → ClassId) (sz : Nat), Met la M.1 (mm_ws M) M.2.2.2.2
    (va_Pc [.ref (ad 0)] (fun U => U.heap.size = sz ∧ va_P D vwCl (mm_w ad ck ws) U.heap ∧ va_K D vwCl (mm_ty ck) U ∧ va_D (fun _ => True) (mm_w ad ck ws) ∧ mm_N ad (va_A (mm_w ad ck ws) sz) U ∧ va_AOA .int U))
    (mm_QI Post D ad ck ws.length (va_A (mm_w ad ck ws) sz)) mc ms (va_A (mm_w ad ck ws) sz)
theorem mm_RI_St {Post : mm_W → Prop} {n0 mc ms : Nat} : mm_St (mm_RI Post n0 mc ms) n0 := by
  intro p la e s m args below meth D ad ad2 ck A Q hag h
  obtain ⟨h1, h2, ad0, h3, h4⟩ := h
  exact ⟨h1, h2, ad0, fun i hi => (hag i hi).trans (h3 i hi), h4⟩
theorem mm_RI_ini {Post : mm_W → Prop} {n0 mc ms : Nat} : mm_ini (mm_RI Post n0 mc ms) := by
  intro p la e s m args below meth D ad ck A Q h
  exact h.1
theorem mm_OkI.of {M : mm_M} {ws : mm_W} {Post : mm_W → Prop} {mc ms : Nat} (hy : plainName M.1.cls = true) (hi : M.1.name = "<init>") (hn : 1 ≤ M.2.2.1) (k : mm_Wp M (mm_RI Post ws.length mc ms) 0 0 0 [(0, .ref 0)] [] ws) : mm_OkI M ws Post mc ms := by
  intro la D ad ck sz
  refine Met.ofW (cc := M.2.1) (maxL := M.2.2.1) (ret := M.2.2.2.1) hy rfl ?_
  intro p e s m args below meth c s₁ B hml hv
  obtain ⟨rfl, hsz, hP, hK, hD0, hN, hO⟩ := hv
  have hts := atoms_spec (ws := mm_ws M) B.pre
  subst hsz
  have hD := hD0.self (sz := s.heap.size)
  have hl2 := lv_entry ([.ref (ad 0)]) (n := M.2.2.1) (by simpa [lg_sl, Value.category] using hn)
  rw [lg_entry_eq]
  exact k.use (ls := (lg_sl [.ref (ad 0)] ++ List.replicate (M.2.2.1 - (lg_sl [.ref (ad 0)]).length) Slot.unset).toArray) ⟨B.exec, B.bytes, hml, findClass_of_methodNamed B.named, fun w hw => hts w (List.mem_cons_of_mem _ hw), B.returns, B.notSynchronized, hK, hN, fun q h => Or.inr h⟩ ⟨(name_of_methodNamed B.named B.method).1.trans hi, hO, ad, fun _ _ => rfl, rfl⟩ hP hD va_S.rf hl2
theorem mm_vretI {M : mm_M} {Post : mm_W → Prop} {n0 mc ms cs ss pc : Nat} {l : List (Nat × Value)} {ws : mm_W} (hr : M.2.2.2.1 = none) (h1 : cs ≤ mc) (h2 : ss ≤ ms) (hd : decode M.2.1 pc = .ok (.return_, 1)) (h : Post ws) : mm_Wp M (mm_RI Post n0 mc ms) cs ss pc l [] ws := by
  intro p la e s m args below meth c D ad ck A H locs ls Q hF hFr hP hD hS hl
  obtain ⟨-, -, ad0, h3, hq⟩ := hFr
  rw [hq]
  refine W.widen h1 h2 ?_
  exact W.vret hF.1 hF.2.1 (hF.2.2.2.2.2.1.trans hr) (fun t ht hW => ⟨⟨ad, ws, rfl, h3, h, by rw [ht]; exact hP, hD⟩, hS.F ht⟩) hS.2.2 hd hF.2.2.2.2.2.2.1
def mm_sh (K k : Nat) : Nat := if k < 1000 then K + k else k
/-- the words of a constructor's call: plain, or of a nest mate -/
def mm_ci (own : String) (ix : Nat) (M : mm_M) : Prop := (Cond.methodLink own ix M.1 ∈ mm_big ∨ ∃ host, (own, ix, M.1, host) ∈ mm_nest) ∧ Cond.instanceMethod M.1 ∈ mm_big ∧ Cond.initialized M.1.cls ∈ mm_big ∧ Cond.code M.1 M.2.1 M.2.2.1 none ∈ mm_big ∧ M.2.2.2.1 = none ∧ M.1.name = "<init>" ∧ mm_plain M 0
def mm_roomI (M M' : mm_M) (mc ms : Nat) : Prop := M'.2.2.2.2.cells = mc ∧ M'.2.2.2.2.slots = ms ∧ M'.2.2.2.2.frames + 1 ≤ M.2.2.2.2.frames ∧ 8 + (M'.2.2.1 + 11) + M'.2.2.2.2.locals ≤ M.2.2.2.2.locals
theorem mm_callI {M M' : mm_M} {Fr : mm_T} {cs ss pc pc' n0 K ix ci mc ms : Nat} {l : List (Nat × Value)} {rest fs : List Value} {pre ws : mm_W} {Post : mm_W → Prop} (hc : mm_ci M.1.cls ix M') (hOk : mm_OkI M' [.inr (ci, fs)] Post mc ms) (hroom : mm_roomI M M' mc ms) (hd : decode M.2.1 pc = .ok (.invokespecial ix, 3)) (hSt : mm_St Fr n0) (hAO : ∀ (p : Program) (la : Launch) (e : Env) (s : State) (m : MethodId) (args : Array Value) (below : List Frame) (meth : Method) (D : va_G) (ad : Nat → Nat) (ck : Nat → ClassId) (A : Nat → Prop) (Q : State → Prop), Fr p la e s m args below meth D ad ck A Q → va_AOA .int s)
    (hn0 : n0 ≤ K + 1) (hws : ws = pre ++ [.inr (ci, fs)]) (hpre : pre.length = K) (hfr : mm_fr ws l rest (K + 1)) (hfs : ∀ ad, fs.map (mm_v ad) = fs) (hpost : ∀ w, Post w → mm_wb w.length w = true ∧ K + w.length ≤ 900) (hrest : (rest.map fun v => v.category).sum ≤ 8) (hcs : cs + mc ≤ M.2.2.2.2.cells ∧ ss + ms ≤ M.2.2.2.2.slots) (hp : pc + 3 = pc')
    (kk : ∀ w, Post w → mm_Wp M Fr (cs + mc) (ss + ms) pc' l rest (pre ++ w.map (mm_re (mm_sh K)))) : mm_Wp M Fr cs ss pc l (.ref K :: rest) ws := by
  subst hp; subst hws; subst hpre
  intro p la e s m args below meth c D ad ck A H locs ls Q hF hFr hP hD hS hl
  obtain ⟨hc0, hc1, hc2, hc3, hc4, hc5, hc6, hc7, hc8⟩ := hc
  obtain ⟨hr1, hr2, hr3, hr4⟩ := hroom
  obtain ⟨g1, g2, g3, g4, g5⟩ := hfr
  have hts := hF.2.2.2.2.1
  have hcode : Cond.code M'.1 M'.2.1 M'.2.2.1 M'.2.2.2.1 ∈ mm_big := by rw [hc4]; exact hc3
  have hKP : (mm_w ad ck (pre ++ [.inr (ci, fs)]))[pre.length]? = some (ad pre.length, .inr (ci, fs)) := by
    rw [mm_w_at (e := .inr (ci, fs)) (by simp)]
    show some (ad pre.length, Sum.inr (ci, fs.map (mm_v ad))) = _
    rw [hfs]
  have hwC : mm_w (fun k => if k < 1000 then ad (pre.length + k) else ad k) ck [.inr (ci, fs)] = [(ad pre.length, .inr (ci, fs))] := by
    show [(ad (pre.length + 0), Sum.inr (ci, fs.map (mm_v _)))] = _
    rw [hfs]
    rfl
  have hC : [pre.length].map (fun i => (mm_w ad ck (pre ++ [.inr (ci, fs)]))[i]?) = (mm_w (fun k => if k < 1000 then ad (pre.length + k) else ad k) ck [.inr (ci, fs)]).map some := by
    rw [hwC, List.map_cons, List.map_nil, hKP]
    rfl
  have hpreAt : ∀ i, i < pre.length → (mm_w ad ck (pre ++ [.inr (ci, fs)]))[i]? = (mm_w ad ck pre)[i]? := by
    intro i hi
    rw [mm_w_app, List.getElem?_append_left (by rw [mm_w_len]; exact hi)]
  have hR : (List.range pre.length).map (fun i => (mm_w ad ck (pre ++ [.inr (ci, fs)]))[i]?) = (mm_w ad ck pre).map some := by
    apply List.ext_getElem?
    intro i
    rw [List.getElem?_map, List.getElem?_map]
    by_cases h : i < pre.length
    · rw [List.getElem?_range h, Option.map_some, hpreAt i h, List.getElem?_eq_getElem (by rw [mm_w_len]; exact h)]
      rfl
    · rw [List.getElem?_eq_none (by simp; omega), List.getElem?_eq_none (by rw [mm_w_len]; omega)]
      rfl
  have hFc := va_free hD hS hF.2.2.2.2.2.2.2.2.2 [pre.length] hC
  have hPre : PreS s H (va_Pc [.ref ((fun k => if k < 1000 then ad (pre.length + k) else ad k) 0)] (fun U => U.heap.size = H.size ∧ va_P D vwCl (mm_w (fun k => if k < 1000 then ad (pre.length + k) else ad k) ck [.inr (ci, fs)]) U.heap ∧ va_K D vwCl (mm_ty ck) U ∧ va_D (fun _ => True) (mm_w (fun k => if k < 1000 then ad (pre.length + k) else ad k) ck [.inr (ci, fs)]) ∧ mm_N (fun k => if k < 1000 then ad (pre.length + k) else ad k) (va_A (mm_w (fun k => if k < 1000 then ad (pre.length + k) else ad k) ck [.inr (ci, fs)]) H.size) U ∧ va_AOA .int U)) (.ref (ad pre.length) :: []) := by
    refine ⟨fun a U g mk q => ?_, fun U hU hW => ⟨rfl, by rw [hU], ?_, va_K.moved hW.alike hF.2.2.2.2.2.2.2.1, ?_, ?_, ?_⟩⟩
    · obtain ⟨q0, q1, q2, q3, q4, q5, q6⟩ := q
      exact ⟨q0, q1, q2, va_K.moved (u := U) (U := U.calling g mk a) (Vm.Alike.refl U.vm) q3, q4, q5.same rfl rfl, va_AOA.moved (u := U) (U := U.calling g mk a) (Vm.Alike.refl U.vm) q6⟩
    · rw [hU]
      intro k q hk
      have h2 : ([pre.length].map (fun i => (mm_w ad ck (pre ++ [.inr (ci, fs)]))[i]?))[k]? = some (some q) := by rw [hC, List.getElem?_map, hk]; rfl
      rw [List.getElem?_map] at h2
      cases h3 : [pre.length][k]? with
      | none => rw [h3] at h2; cases h2
      | some i => rw [h3] at h2; exact hP i q (Option.some.inj h2)
    · exact (hD.sub [pre.length] rfl hC).weaken (fun _ _ _ _ => trivial)
    · refine (hF.2.2.2.2.2.2.2.2.1).move hW (fun a h1 h2 => by rw [hU]; exact hS.2.1 a h1 h2) hFc (fun i hi => ?_)
      show (if i < 1000 then _ else _) = _
      rw [if_neg (by omega)]
    · exact va_AOA.moved hW.alike (hAO _ _ _ _ _ _ _ _ _ _ _ _ _ hFr)
  have hrun : va_Run p la e M.2.2.2.2 s m args below meth c H locs cs ss mc ms (F0 m pc ls (.ref (ad pre.length) :: rest.map (mm_v ad))) (rest.map (mm_v ad)) (mm_QI Post D (fun k => if k < 1000 then ad (pre.length + k) else ad k) ck 1 (va_A (mm_w (fun k => if k < 1000 then ad (pre.length + k) else ad k) ck [.inr (ci, fs)]) H.size) (Value.ref (ad pre.length) :: []).toArray) (va_A (mm_w (fun k => if k < 1000 then ad (pre.length + k) else ad k) ck [.inr (ci, fs)]) H.size) := by
    rcases hc0 with hc0 | ⟨host, hc0⟩
    · exact va_runI (As := []) (rest := rest.map (mm_v ad)) ⟨hF.1, hF.2.1, hF.2.2.1, hF.2.2.2.1, hts⟩ (hOk la D (fun k => if k < 1000 then ad (pre.length + k) else ad k) ck H.size) (cwI 0 hts (mm_ws_good hcode) (by unfold mm_ws; rw [hc4]) hr1 hr2 (hts _ hc2) (hts _ hc0) (hts _ hc1) hc5 ⟨hc6, hc7, hc8⟩ ⟨hr3, hr4⟩) hPre rfl rfl hl.1 rfl (lv_room (mm_rest hrest)) hd hcs
    · exact va_runIN (As := []) (rest := rest.map (mm_v ad)) (host := host) ⟨hF.1, hF.2.1, hF.2.2.1, hF.2.2.2.1, hts⟩ (hOk la D (fun k => if k < 1000 then ad (pre.length + k) else ad k) ck H.size) ⟨va_cnB 0 hts (mm_ws_good hcode) (by unfold mm_ws; rw [hc4]) hr1 hr2 (hF.2.2.2.2.2.2.2.2.1.1 _ hc0) (hts _ hc2) ⟨hc6, hc7, hc8⟩ ⟨hr3, hr4⟩, hc5, hts _ hc1⟩ hPre rfl rfl hl.1 rfl (lv_room (mm_rest hrest)) hd hcs
  intro T hT X
  obtain ⟨v, st₀, t, T', L, h0, X', hL, e1, e2, ⟨⟨ad2, w, hv, hag, hpo, hP1, hD1⟩, hz, hk⟩, st⟩ := hrun T hT X
  cases hv
  rw [h0] at hz hk
  obtain ⟨hJ, hJD⟩ := va_join hP hD [pre.length] (List.range pre.length) hC hR (by
      have : ∀ n, va_nd (List.range n) = true := by
        intro n
        have h9 : (List.range n).Nodup := List.nodup_range
        generalize List.range n = l9 at h9
        induction l9 with
        | nil => rfl
        | cons a l9 ih =>
          rw [List.nodup_cons] at h9
          simp [va_nd, h9.1, ih h9.2]
      exact this _) (by intro i hi; have := List.mem_range.mp hi; simp; omega) hk hFc hP1 hD1
  have hS1 : va_S A s.heap T'.heap (locs ++ L) := ⟨Nat.le_trans hS.1 (by rw [e1]; exact hz), fun q h1 h2 => by
      rw [e1, hk q (Nat.lt_of_lt_of_le h1 hS.1) (fun z => h2 (hFc q z))]
      exact hS.2.1 q h1 h2, fun q hq => by
      rcases List.mem_append.mp hq with h | h
      · exact hS.2.2 q h
      · exact hFc _ (hL q h)⟩
  obtain ⟨hw1, hw2⟩ := hpost w hpo
  generalize hadE : (fun i => if i < pre.length then ad i else if i < 1000 then ad2 (i - pre.length) else ad i) = adn
  have hag1 : mm_ag (pre.length + 1) ad adn := by
    intro i hi
    rw [← hadE]
    show (if i < pre.length then ad i else if i < 1000 then ad2 (i - pre.length) else ad i) = ad i
    by_cases h1 : i < pre.length
    · rw [if_pos h1]
    · rw [if_neg h1]
      by_cases h2 : i < 1000
      · rw [if_pos h2]
        have h3 : i = pre.length := by omega
        subst h3
        rw [Nat.sub_self, hag 0 (Or.inl (by decide))]
        rfl
      · rw [if_neg h2]
  have hag2 : mm_ag w.length ad2 (fun k => adn (mm_sh pre.length k)) := by
    intro i hi
    rw [← hadE]
    unfold mm_sh
    by_cases h2 : i < 1000
    · have h3 : i < w.length := by omega
      simp only [if_pos h2]
      rw [if_neg (by omega), if_pos (by omega), Nat.add_sub_cancel_left]
    · simp only [if_neg h2]
      rw [if_neg (by omega), hag i (Or.inr (by omega))]
      show ad i = if i < 1000 then _ else ad i
      rw [if_neg h2]
  have hPn : va_P D vwCl (mm_w adn ck (pre ++ w.map (mm_re (mm_sh pre.length)))) T'.heap := by
    intro k q hq
    obtain ⟨e9, he9, rfl⟩ := mm_w_of hq
    by_cases hk9 : k < pre.length
    · rw [List.getElem?_append_left hk9] at he9
      have h5 : va_at D vwCl (ad k, mm_e ad ck e9) t.heap := hJ k _ (by rw [List.getElem?_append_left (by rw [mm_w_len]; exact hk9)]; exact mm_w_at he9)
      rw [e1, hag1 k (Or.inl (by omega))]
      refine mm_at_ag hag1 ?_ h5
      refine List.all_eq_true.mp g3 e9 ?_
      exact List.mem_append_left _ (List.mem_of_getElem? he9)
    · rw [List.getElem?_append_right (by omega), List.getElem?_map] at he9
      cases hw9 : w[k - pre.length]? with
      | none => rw [hw9] at he9; cases he9
      | some e8 =>
        rw [hw9] at he9
        cases he9
        have hlt8 : k - pre.length < w.length := (List.getElem?_eq_some_iff.mp hw9).1
        have h5 : va_at D vwCl (ad2 (k - pre.length), mm_e ad2 ck e8) t.heap := hP1 (k - pre.length) _ (mm_w_at hw9)
        have h6 := mm_at_ag (D := D) hag2 (List.all_eq_true.mp hw1 e8 (List.mem_of_getElem? hw9)) h5
        rw [mm_e_re, e1]
        have h7 : adn k = ad2 (k - pre.length) := by
          have := hag2 (k - pre.length) (Or.inl hlt8)
          rw [← this]
          show adn k = adn (mm_sh pre.length (k - pre.length))
          unfold mm_sh
          rw [if_pos (by omega)]
          congr 1
          omega
        rw [h7]
        exact h6
  have hDn : va_D A (mm_w adn ck (pre ++ w.map (mm_re (mm_sh pre.length)))) := by
    refine va_D_fst ?_ hJD
    rw [mm_w_fst, List.map_append, mm_w_fst, mm_w_fst]
    apply List.ext_getElem?
    intro i
    by_cases hi : i < pre.length
    · rw [List.getElem?_append_left (by simpa using hi), List.getElem?_map, List.getElem?_map, List.getElem?_range (by simp; omega), List.getElem?_range hi]
      simp only [Option.map_some]
      rw [hag1 i (Or.inl (by omega))]
    · rw [List.getElem?_append_right (by simpa using hi)]
      simp only [List.length_map, List.length_range, List.getElem?_map, List.length_append]
      by_cases hi2 : i < pre.length + w.length
      · rw [List.getElem?_range hi2, List.getElem?_range (by omega)]
        simp only [Option.map_some]
        have := hag2 (i - pre.length) (Or.inl (by omega))
        rw [← this]
        show some (adn i) = some (adn (mm_sh pre.length (i - pre.length)))
        unfold mm_sh
        rw [if_pos (by omega)]
        congr 2
        omega
      · rw [List.getElem?_eq_none (by simp; omega), List.getElem?_eq_none (by simp; omega)]
        rfl
  have hF2 : mm_F M p s m args meth c D adn ck A := by
    obtain ⟨a1, a2, a3, a4, a5, a6, a7, a8, a9, a10⟩ := hF
    exact ⟨a1, a2, a3, a4, a5, a6, a7, a8, mm_N_ad a9 hag1, a10⟩
  have h9 := (kk w hpo).use (ls := ls) hF2 (hSt _ _ _ _ _ _ _ _ _ _ _ _ _ _ (mm_ag_le hag1 hn0) hFr) hPn hDn hS1 (by rw [mm_l_ag hag1 g4]; exact hl)
  rw [mm_vs_ag hag1 g5] at h9
  obtain ⟨t2, a1, b1⟩ := h9 T' rfl X'
  exact ⟨t2, st t2 a1, b1⟩
theorem mm_multi {M : mm_M} {Fr : mm_T} {cs ss pc pc' n0 k ix : Nat} {l : List (Nat × Value)} {rest : List Value} {ws ws' : mm_W} (hc : Cond.classLink M.1.cls ix "[[I" ∈ mm_big) (hcI : Cond.arrayClass .int ∈ mm_big) (hd : decode M.2.1 pc = .ok (.multianewarray ix 2, 4)) (hcells : cs + (1 + 3) ≤ M.2.2.2.2.cells) (hslots : ss + (3 + 3 * 60) ≤ M.2.2.2.2.slots) (hSt : mm_St Fr n0) (hAO : ∀ (p : Program) (la : Launch) (e : Env) (s : State) (m : MethodId) (args : Array Value) (below : List Frame) (meth : Method) (D : va_G) (ad : Nat → Nat) (ck : Nat → ClassId) (A : Nat → Prop) (Q : State → Prop), Fr p la e s m args below meth D ad ck A Q → va_AOA .int s) (hn0 : n0 ≤ k) (hfr : mm_fr ws l rest k)
    (hw : ws ++ [.inl (3, 3, .inr (.inr (.inr (.inr (fun j => some (k + 1 + j)))))), .inl (0, 60, .inl (fun _ => 0)), .inl (0, 60, .inl (fun _ => 0)), .inl (0, 60, .inl (fun _ => 0))] = ws') (hp : pc + 4 = pc') (kk : mm_Wp M Fr (cs + 1 + 3) (ss + 3 + 3 * 60) pc' l (.ref k :: rest) ws') : mm_Wp M Fr cs ss pc l (.int 60 :: .int 3 :: rest) ws := by
  subst hp; subst hw
  intro p la e s m args below meth c D ad ck A H locs ls Q hF hFr hP hD hS hl
  have hK := hF.2.2.2.2.2.2.2.1
  have hts := hF.2.2.2.2.1
  obtain ⟨g1, g2, g3, g4, g5⟩ := hfr
  have hX : mm_w ad ck ws ++ va_pl [] (fun _ => (.inl (ck 0, (0, .inl (fun _ => 0))) : va_E)) = mm_w ad ck ws := by simp [va_pl]
  refine va_mna (X := mm_w ad ck ws) (L := []) (f := fun _ => .inl (ck 0, (0, .inl (fun _ => 0)))) (ty := .int) (cy := ck 0) (n := 3) (k := 60) (N' := 3) (K' := 60) (z := (60, .inl (fun _ => 0))) hF.1 hF.2.1 hF.2.2.2.1 (hts _ hc) (hAO _ _ _ _ _ _ _ _ _ _ _ _ _ hFr) (hts _ hcI) (hK.2 0 (ck 0, .int) rfl).2 hK (by rw [hX]; exact hP) (by rw [hX]; exact hD) hS hF.2.2.2.2.2.2.2.2.2 (by decide) (by decide) (by decide +kernel) (by decide +kernel) (by decide) (by decide) (by decide) rfl rfl hcells hslots (fun c => by
      show ({ cls := c, slots := Array.replicate 60 (.int 0), vm := .none } : Cell) = arrV c 60 (fun _ => .int 0)
      exact arrV_new _ _ _) hd (fun q r cA H1 hinj hnin hK1 hP1 hD1 hS1 => ?_)
  have hcA : cA = ck 3 := by
    have h1 := (hK.2 3 (ck 3, .array .int) rfl).2
    have h2 := (hK1.2 (mm_ty ck).length (cA, .array .int) (by rw [List.getElem?_append_right (Nat.le_refl _), Nat.sub_self]; rfl)).2
    exact Option.some.inj (h2.symm.trans h1)
  subst hcA
  have hpl : va_pl ([] ++ (List.range 3).map r) (vr_up (fun _ => (.inl (ck 0, (0, .inl (fun _ => 0))) : va_E)) ((List.range 3).map r) (.inl (ck 0, (60, .inl (fun _ => 0))))) = [(r 0, .inl (ck 0, (60, .inl (fun _ => 0)))), (r 1, .inl (ck 0, (60, .inl (fun _ => 0)))), (r 2, .inl (ck 0, (60, .inl (fun _ => 0))))] := by
    have e : (List.range 3).map r = [r 0, r 1, r 2] := rfl
    rw [e]
    unfold va_pl
    simp only [List.nil_append, List.map_cons, List.map_nil]
    rw [vr_up_in (by simp), vr_up_in (by simp), vr_up_in (by simp)]
  rw [hpl] at hP1 hD1
  generalize hadE : (fun i => if i = k then q else if i = k + 1 then r 0 else if i = k + 2 then r 1 else if i = k + 3 then r 2 else ad i) = adn
  have a0 : adn k = q := by rw [← hadE]; simp
  have a1 : adn (k + 1) = r 0 := by rw [← hadE]; simp
  have a2 : adn (k + 2) = r 1 := by rw [← hadE]; simp
  have a3 : adn (k + 3) = r 2 := by rw [← hadE]; simp
  have hag : mm_ag k ad adn := by
    intro i hi
    rw [← hadE]
    show (if i = k then q else if i = k + 1 then r 0 else if i = k + 2 then r 1 else if i = k + 3 then r 2 else ad i) = ad i
    rw [if_neg (by omega), if_neg (by omega), if_neg (by omega), if_neg (by omega)]
  have hw4 : mm_w adn ck (ws ++ [.inl (3, 3, .inr (.inr (.inr (.inr (fun j => some (k + 1 + j)))))), .inl (0, 60, .inl (fun _ => 0)), .inl (0, 60, .inl (fun _ => 0)), .inl (0, 60, .inl (fun _ => 0))]) = mm_w adn ck ws ++ [(q, mm_e adn ck (.inl (3, 3, .inr (.inr (.inr (.inr (fun j => some (k + 1 + j)))))))), (r 0, .inl (ck 0, (60, .inl (fun _ => 0)))), (r 1, .inl (ck 0, (60, .inl (fun _ => 0)))), (r 2, .inl (ck 0, (60, .inl (fun _ => 0))))] := by
    rw [show ws ++ [.inl (3, 3, .inr (.inr (.inr (.inr (fun j => some (k + 1 + j)))))), .inl (0, 60, .inl (fun _ => 0)), .inl (0, 60, .inl (fun _ => 0)), .inl (0, 60, .inl (fun _ => 0))] = (((ws ++ [.inl (3, 3, .inr (.inr (.inr (.inr (fun j => some (k + 1 + j))))))]) ++ [.inl (0, 60, .inl (fun _ => 0))]) ++ [.inl (0, 60, .inl (fun _ => 0))]) ++ [.inl (0, 60, .inl (fun _ => 0))] by simp]
    rw [mm_w_app, mm_w_app, mm_w_app, mm_w_app]
    simp only [List.length_append, List.length_singleton, g1, a0, a1, a2, a3, List.append_assoc]
    rfl
  have hP0 : va_P D vwCl (mm_w ad ck ws) H1 := fun i x hx => hP1 i x (by rw [List.append_assoc, List.getElem?_append_left (by exact (List.getElem?_eq_some_iff.mp hx).1)]; exact hx)
  have hPq : ∀ (j : Nat) (x : Nat × va_E), ([(q, .inl (ck 3, 3, .inr (.inr (.inr (.inr (fun i => if i < 3 then some (r i) else none)))))), (r 0, .inl (ck 0, (60, .inl (fun _ => 0)))), (r 1, .inl (ck 0, (60, .inl (fun _ => 0)))), (r 2, .inl (ck 0, (60, .inl (fun _ => 0))))] : va_W)[j]? = some x → va_at D vwCl x H1 := fun j x hx => hP1 (ws.length + j) x (by rw [List.append_assoc, List.getElem?_append_right (by rw [mm_w_len]; omega), mm_w_len, Nat.add_sub_cancel_left]; exact hx)
  have hPn : va_P D vwCl (mm_w adn ck (ws ++ [.inl (3, 3, .inr (.inr (.inr (.inr (fun j => some (k + 1 + j)))))), .inl (0, 60, .inl (fun _ => 0)), .inl (0, 60, .inl (fun _ => 0)), .inl (0, 60, .inl (fun _ => 0))])) H1 := by
    rw [hw4]
    refine (mm_P_ag hag (by omega) g3 hP0).app ?_
    intro j x hx
    have hj : j < 4 := (List.getElem?_eq_some_iff.mp hx).1
    rcases (show j = 0 ∨ j = 1 ∨ j = 2 ∨ j = 3 by omega) with rfl | rfl | rfl | rfl
    · cases hx
      have h9 : H1[q]? = some (vp_cell (ck 3) (3, .inr (.inr (.inr (.inr (fun i => if i < 3 then some (r i) else none)))))) := hPq 0 _ rfl
      show H1[q]? = some (vp_cell (ck 3) (3, .inr (.inr (.inr (.inr (fun j => (some (k + 1 + j) : Option Nat).map adn))))))
      rw [h9, vp_cell_q, vp_cell_q]
      congr 1
      apply arrV_cong
      intro j hj3
      rcases (show j = 0 ∨ j = 1 ∨ j = 2 by omega) with rfl | rfl | rfl
      · show va_rf (some (r 0)) = va_rf (some (adn (k + 1)))
        rw [a1]
      · show va_rf (some (r 1)) = va_rf (some (adn (k + 2)))
        rw [a2]
      · show va_rf (some (r 2)) = va_rf (some (adn (k + 3)))
        rw [a3]
    · exact hPq 1 x hx
    · exact hPq 2 x hx
    · exact hPq 3 x hx
  have hDn : va_D A (mm_w adn ck (ws ++ [.inl (3, 3, .inr (.inr (.inr (.inr (fun j => some (k + 1 + j)))))), .inl (0, 60, .inl (fun _ => 0)), .inl (0, 60, .inl (fun _ => 0)), .inl (0, 60, .inl (fun _ => 0))])) := by
    rw [hw4]
    refine va_D_fst ?_ hD1
    rw [List.append_assoc, List.map_append, List.map_append, mm_w_fst, mm_w_fst]
    congr 1
    apply List.map_congr_left
    intro i hi
    exact hag i (Or.inl (by have := List.mem_range.mp hi; omega))
  have hF2 : mm_F M p s m args meth c D adn ck A := by
    obtain ⟨b1, b2, b3, b4, b5, b6, b7, b8, b9, b10⟩ := hF
    exact ⟨b1, b2, b3, b4, b5, b6, b7, b8, mm_N_ad b9 hag, b10⟩
  have h9 := kk.use (ls := ls) hF2 (hSt _ _ _ _ _ _ _ _ _ _ _ _ _ _ (mm_ag_le hag hn0) hFr) hPn hDn hS1 (by rw [mm_l_ag hag g4]; exact hl)
  rw [List.map_cons, mm_vs_ag hag g5] at h9
  have e3 : mm_v adn (.ref k) = .ref q := by show Value.ref (adn k) = _; rw [a0]
  rw [e3] at h9
  exact h9
theorem mm_rows {M : mm_M} {Fr : mm_T} {cs ss pc k : Nat} {l : List (Nat × Value)} {st : List Value} {ws ws' : mm_W} {f f2 : Nat → Option Nat} (ha : ws[k]? = some (.inl (3, 3, .inr (.inr (.inr (.inr f)))))) (hf : ∀ j, j < 3 → f j = f2 j) (hw : ws.set k (.inl (3, 3, .inr (.inr (.inr (.inr f2))))) = ws') (kk : mm_Wp M Fr cs ss pc l st ws') : mm_Wp M Fr cs ss pc l st ws := by
  subst hw
  intro p la e s m args below meth c D ad ck A H locs ls Q hF hFr hP hD hS hl
  have hP2 : va_P D vwCl (mm_w ad ck (ws.set k (.inl (3, 3, .inr (.inr (.inr (.inr f2))))))) H := by
    rw [← mm_w_set]
    refine hP.set hD (mm_w_at ha) ?_ (fun _ _ => rfl)
    have h1 : H[ad k]? = some (vp_cell (ck 3) (3, .inr (.inr (.inr (.inr (fun j => (f j).map ad)))))) := hP k _ (mm_w_at ha)
    show H[ad k]? = some (vp_cell (ck 3) (3, .inr (.inr (.inr (.inr (fun j => (f2 j).map ad))))))
    rw [h1, vp_cell_q, vp_cell_q]
    congr 1
    apply arrV_cong
    intro j hj
    show va_rf ((f j).map ad) = va_rf ((f2 j).map ad)
    rw [hf j hj]
  exact kk.use hF hFr hP2 (mm_D_len (by simp) hD) hS hl
