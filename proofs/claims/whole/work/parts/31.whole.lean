set_option maxHeartbeats 4000000 in
set_option maxRecDepth 100000 in
/-- THE LAW, from its entry -/
theorem whole_start {p : Program} {e : Env} {s : State} {m : MethodId} {below : List Frame} {meth : Method} {c : Code} (l : Launch) (hflags : l.flags = flags0) {b L : Nat} {xs : Nat → Int32} (hL : L ≤ 2560) (C0 : lw_At p s m meth c b L xs) : W p l e room_1 s m #[Value.ref b] below meth c s.heap [] 0 0 (lw_Z below #[Value.ref b] s) (entryFrame m ([Value.ref b] : List Value).toArray 4) := by
  obtain ⟨hx, hb, hr, hml, hown, hts, hX, hbl, hlocks, hgv⟩ := id C0
  obtain ⟨D, ck, hK⟩ := st_K hts
  obtain ⟨ad, had, hN⟩ := st_N (b := b) hts hgv
  obtain ⟨fu, rX1, rX8, hX1, hX8, hlaw⟩ := pure_law hL xs
  have hk := st_walk (b := b) (L := L) (xs := xs) hX1 hX8 (s_L_law_L18 _ _ _ _ _ _ _ _ _ _ _ _ _ _ _ _ _ _ _ _ _ _ _ _ _ _ _ _ _ _ _ _ _ _ _ _ _ _ _ _ _ _ _ _ _ _ _ _ _ _ _ _ _ _ _ _ _ _ _ _ _ _ _ _ _ _ _ _ _ _ _ _ _ _ _ _ _ _ _ _ _ _ _ _ _ _ _ _ _ _ _ _ _ _ _ _ _ _ _ _ _ _ _ _ _ _ _ _ _ _ _ _ _ _ _ _ _ _ _ _ _ _ _ _ _ _ _ _ _ _ _ _ _ _ _ _ _ _ _ _ _ _ _ _ _ _ _ _ _ _ hlaw)
  have hl := lv_entry ([.ref b]) (n := 4) (Nat.le_of_ble_eq_true rfl)
  rw [lg_entry_eq]
  have h9 := hk.use (p := p) (la := l) (e := e) (s := s) (m := m) (args := #[Value.ref b]) (below := below) (meth := meth) (c := c) (D := D) (ad := ad) (ck := ck) (A := fun q => s.heap.size ≤ q) (H := s.heap) (locs := []) (ls := (lg_sl ([.ref b]) ++ List.replicate (4 - (lg_sl ([.ref b])).length) Slot.unset).toArray) (Q := lw_Z below #[Value.ref b] s)
    ⟨hx, hb, hml, hown, fun w hw => hts w (st_big hw), hr, hlocks, hK, hN, fun q h => h⟩ ⟨rfl, rfl, had, hX, hbl, fun _ h => h, hts (.arrayOver (.array .int)) (List.mem_of_getElem? (i := 258) (by decide +kernel))⟩
    (fun k q h => by simp [mm_w] at h) ⟨fun i j p q h => by simp [mm_w] at h, fun k q h => by simp [mm_w] at h⟩ va_S.rf (by rw [show mm_l ad [(0, Value.ref 4000)] = [(0, Value.ref b)] by simp [mm_l, mm_v, had]]; exact hl)
  exact h9
