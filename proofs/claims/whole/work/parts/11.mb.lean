def P_X0_tellWindows (q_sets : Int32) (q_size : Int32) (q_least : Int32) (q_greatest : Int32) (q_shown : Nat → Int64) (q_soWithout : Nat → Int32) (u_wide : Int32) (u_high : Int32) (u_slackNow : Int32) (u_tenants : Int32) (u_letters : Int32) (u_readings : Int32) (u_kinds : Nat → Int32) (u_painOf : Nat → Int32) (u_payFor : Nat → Int32) (u_refused : Nat → Int32) (u_owned : Nat → Int64) (u_litIn : Nat → Int64) (u_shapes : Nat → Int32) (u_readAt : Nat → Int32) (u_meant : Nat → Int32) (u_readSo : Nat → Int32) (r : Int32 × (Nat → Int32)) : Option Value → mm_W → Prop := fun rv w => rv = some (.int r.1) ∧ w = (W_X0_X5 q_sets q_size q_least q_greatest r.2 q_shown q_soWithout u_wide u_high u_slackNow u_tenants u_letters u_readings u_kinds u_painOf u_payFor u_refused u_owned u_litIn u_shapes u_readAt u_meant u_readSo)
def X0_tellWindows_J28 (fu : Nat) (rec4 : (Nat → Int32) → Int32 → Int32 → Option (Int32 × (Nat → Int32))) (q_windows : Nat → Int32) (u_wide : Int32) (u_high : Int32) (v2 : Int32) (v3 : Int32)  : Option (Int32 × (Nat → Int32)) := rec4 q_windows v2 (v3 + (1 : Int32))
set_option maxHeartbeats 4000000 in
set_option maxRecDepth 100000 in
theorem s_X0_tellWindows_J28 {fu : Nat} {q_sets : Int32} {q_size : Int32} {q_least : Int32} {q_greatest : Int32} {q_windows : Nat → Int32} {q_shown : Nat → Int64} {q_soWithout : Nat → Int32} {u_wide : Int32} {u_high : Int32} {u_slackNow : Int32} {u_tenants : Int32} {u_letters : Int32} {u_readings : Int32} {u_kinds : Nat → Int32} {u_painOf : Nat → Int32} {u_payFor : Nat → Int32} {u_refused : Nat → Int32} {u_owned : Nat → Int64} {u_litIn : Nat → Int64} {u_shapes : Nat → Int32} {u_readAt : Nat → Int32} {u_meant : Nat → Int32} {u_readSo : Nat → Int32} {r : Int32 × (Nat → Int32)} {rec4 : (Nat → Int32) → Int32 → Int32 → Option (Int32 × (Nat → Int32))} {v2 : Int32} {v3 : Int32} (hr4 : ∀ (z_q_windows : Nat → Int32) (y2 : Int32) (y3 : Int32), rec4 z_q_windows y2 y3 = some r → mm_Wp mX0_tellWindows (mm_R (P_X0_tellWindows q_sets q_size q_least q_greatest q_shown q_soWithout u_wide u_high u_slackNow u_tenants u_letters u_readings u_kinds u_painOf u_payFor u_refused u_owned u_litIn u_shapes u_readAt u_meant u_readSo r)) 0 0 4 [(0, .ref 0), (1, .ref 4), (2, .int y2), (3, .int y3)] [] (W_X0_X5 q_sets q_size q_least q_greatest z_q_windows q_shown q_soWithout u_wide u_high u_slackNow u_tenants u_letters u_readings u_kinds u_painOf u_payFor u_refused u_owned u_litIn u_shapes u_readAt u_meant u_readSo)) (h : X0_tellWindows_J28 fu rec4 q_windows u_wide u_high v2 v3 = some r) : mm_Wp mX0_tellWindows (mm_R (P_X0_tellWindows q_sets q_size q_least q_greatest q_shown q_soWithout u_wide u_high u_slackNow u_tenants u_letters u_readings u_kinds u_painOf u_payFor u_refused u_owned u_litIn u_shapes u_readAt u_meant u_readSo r)) 0 0 28 [(0, .ref 0), (1, .ref 4), (2, .int v2), (3, .int v3)] [] (W_X0_X5 q_sets q_size q_least q_greatest q_windows q_shown q_soWithout u_wide u_high u_slackNow u_tenants u_letters u_readings u_kinds u_painOf u_payFor u_refused u_owned u_litIn u_shapes u_readAt u_meant u_readSo) := by
  rw [X0_tellWindows_J28] at h
  refine mm_iinc 3 dX0_tellWindows_28 rfl ki_1 (by decide) (l' := [(3, .int (v3 + (1 : Int32))), (0, .ref 0), (1, .ref 4), (2, .int v2)]) rfl (pc' := 31) rfl ?_
  refine mm_goto (tgt := 4) dX0_tellWindows_31 (by decide) ?_
  exact mm_sub [1, 2, 3, 0] rfl (hr4 _ _ _ h)
def X0_tellWindows_L4 (fu : Nat)  (u_wide : Int32) (u_high : Int32)  : Nat → (Nat → Int32) → Int32 → Int32 → Option (Int32 × (Nat → Int32))
  | 0, _, _, _ => none
  | n + 1, q_windows, v2, v3 => if (60 : Int32) ≤ v3 then (some (v2, q_windows)) else ((f_X5_isWindow fu u_wide u_high v3).bind fun t12 => if t12 = 0 then (X0_tellWindows_J28 fu (X0_tellWindows_L4 fu u_wide u_high n) q_windows u_wide u_high v2 v3) else (mm_ck 60 v2 (X0_tellWindows_J28 fu (X0_tellWindows_L4 fu u_wide u_high n) (upd q_windows v2.toNatClampNeg v3) u_wide u_high (v2 + (1 : Int32)) v3)))
set_option maxHeartbeats 4000000 in
set_option maxRecDepth 100000 in
theorem s_X0_tellWindows_L4 {fu : Nat} {q_sets : Int32} {q_size : Int32} {q_least : Int32} {q_greatest : Int32} {q_shown : Nat → Int64} {q_soWithout : Nat → Int32} {u_wide : Int32} {u_high : Int32} {u_slackNow : Int32} {u_tenants : Int32} {u_letters : Int32} {u_readings : Int32} {u_kinds : Nat → Int32} {u_painOf : Nat → Int32} {u_payFor : Nat → Int32} {u_refused : Nat → Int32} {u_owned : Nat → Int64} {u_litIn : Nat → Int64} {u_shapes : Nat → Int32} {u_readAt : Nat → Int32} {u_meant : Nat → Int32} {u_readSo : Nat → Int32} {r : Int32 × (Nat → Int32)} : ∀ (n : Nat) (q_windows : Nat → Int32) (v2 : Int32) (v3 : Int32), X0_tellWindows_L4 fu u_wide u_high n q_windows v2 v3 = some r → mm_Wp mX0_tellWindows (mm_R (P_X0_tellWindows q_sets q_size q_least q_greatest q_shown q_soWithout u_wide u_high u_slackNow u_tenants u_letters u_readings u_kinds u_painOf u_payFor u_refused u_owned u_litIn u_shapes u_readAt u_meant u_readSo r)) 0 0 4 [(0, .ref 0), (1, .ref 4), (2, .int v2), (3, .int v3)] [] (W_X0_X5 q_sets q_size q_least q_greatest q_windows q_shown q_soWithout u_wide u_high u_slackNow u_tenants u_letters u_readings u_kinds u_painOf u_payFor u_refused u_owned u_litIn u_shapes u_readAt u_meant u_readSo) := by
  intro n
  induction n with
  | zero =>
    intro q_windows v2 v3 h
    rw [X0_tellWindows_L4] at h
    cases h
  | succ n hr4 =>
    intro q_windows v2 v3 h
    rw [X0_tellWindows_L4] at h
    refine mm_iload_n 3 dX0_tellWindows_4 rfl rfl (pc' := 5) rfl ?_
    refine mm_bipush dX0_tellWindows_5 kb_60 (pc' := 7) rfl ?_
    refine mm_icmp_ge (tgt := 34) dX0_tellWindows_7 (by decide) (pc' := 10) rfl (fun c => ?_) (fun c => ?_)
    · replace h := mm_it h c
      clear c
      refine mm_iload_n 2 dX0_tellWindows_34 rfl rfl (pc' := 35) rfl ?_
      have h9 := Option.some.inj h
      subst h9
      exact mm_iret rfl dX0_tellWindows_35 ⟨rfl, rfl⟩
    · replace h := mm_if h c
      clear c
      refine mm_aload_n 1 dX0_tellWindows_10 rfl rfl (pc' := 11) rfl ?_
      refine mm_iload_n 3 dX0_tellWindows_11 rfl rfl (pc' := 12) rfl ?_
      obtain ⟨t12, h12, h⟩ := mm_bd h
      refine mm_callV (As := [.int v3]) (rest := []) (av := [.ref 0, .int v3]) (wc := (W_X5 u_wide u_high u_slackNow u_tenants u_letters u_readings u_kinds u_painOf u_payFor u_refused u_owned u_litIn u_shapes u_readAt u_meant u_readSo)) (is := [4, 5, 6, 7, 8, 9, 10, 11, 12, 13, 14]) cV_X0_48 (ok_X5_isWindow h12) ⟨rfl, rfl, Nat.le_of_ble_eq_true rfl, Nat.le_of_ble_eq_true rfl⟩ dX0_tellWindows_12 rfl rfl rfl rfl rfl ⟨rfl, by decide, by decide⟩ (by rintro _ _ ⟨-, rfl⟩; rfl) (Nat.le_of_ble_eq_true rfl) ⟨Nat.le_of_ble_eq_true rfl, Nat.le_of_ble_eq_true rfl⟩ (pc' := 15) rfl ?_
      rintro rv w ⟨rfl, rfl⟩
      show mm_Wp _ _ _ _ 15 [(0, .ref 0), (1, .ref 4), (2, .int v2), (3, .int v3)] [.int t12] (W_X0_X5 q_sets q_size q_least q_greatest q_windows q_shown q_soWithout u_wide u_high u_slackNow u_tenants u_letters u_readings u_kinds u_painOf u_payFor u_refused u_owned u_litIn u_shapes u_readAt u_meant u_readSo)
      clear h12
      refine mm_if_eq (tgt := 28) dX0_tellWindows_15 (by decide) (pc' := 18) rfl (fun c => ?_) (fun c => ?_)
      · replace h := mm_it h c
        clear c
        exact s_X0_tellWindows_J28 (hr4 := hr4) h
      · replace h := mm_if h c
        clear c
        refine mm_aload_n 0 dX0_tellWindows_18 rfl rfl (pc' := 19) rfl ?_
        refine mm_getf fG_X0_24 dX0_tellWindows_19 rfl rfl (pc' := 22) rfl ?_
        refine mm_iload_n 2 dX0_tellWindows_22 rfl rfl (pc' := 23) rfl ?_
        refine mm_iload_n 3 dX0_tellWindows_23 rfl rfl (pc' := 24) rfl ?_
        obtain ⟨c24, h⟩ := mm_ck_of h
        refine mm_iast dX0_tellWindows_24 rfl c24 rfl (ws' := (W_X0_X5 q_sets q_size q_least q_greatest (upd q_windows v2.toNatClampNeg v3) q_shown q_soWithout u_wide u_high u_slackNow u_tenants u_letters u_readings u_kinds u_painOf u_payFor u_refused u_owned u_litIn u_shapes u_readAt u_meant u_readSo)) rfl (pc' := 25) rfl ?_
        clear c24
        refine mm_iinc 2 dX0_tellWindows_25 rfl ki_1 (by decide) (l' := [(2, .int (v2 + (1 : Int32))), (0, .ref 0), (1, .ref 4), (3, .int v3)]) rfl (pc' := 28) rfl ?_
        exact mm_sub [1, 2, 0, 3] rfl (s_X0_tellWindows_J28 (hr4 := hr4) h)
def f_X0_tellWindows (fu : Nat) (q_windows : Nat → Int32) (u_wide : Int32) (u_high : Int32) : Option (Int32 × (Nat → Int32)) := X0_tellWindows_L4 fu u_wide u_high fu q_windows (0 : Int32) (0 : Int32)
set_option maxHeartbeats 4000000 in
set_option maxRecDepth 100000 in
theorem ok_X0_tellWindows {fu : Nat} {q_sets : Int32} {q_size : Int32} {q_least : Int32} {q_greatest : Int32} {q_windows : Nat → Int32} {q_shown : Nat → Int64} {q_soWithout : Nat → Int32} {u_wide : Int32} {u_high : Int32} {u_slackNow : Int32} {u_tenants : Int32} {u_letters : Int32} {u_readings : Int32} {u_kinds : Nat → Int32} {u_painOf : Nat → Int32} {u_payFor : Nat → Int32} {u_refused : Nat → Int32} {u_owned : Nat → Int64} {u_litIn : Nat → Int64} {u_shapes : Nat → Int32} {u_readAt : Nat → Int32} {u_meant : Nat → Int32} {u_readSo : Nat → Int32} {r : Int32 × (Nat → Int32)} (h : f_X0_tellWindows fu q_windows u_wide u_high = some r) : mm_Ok mX0_tellWindows [.ref 0, .ref 4] (W_X0_X5 q_sets q_size q_least q_greatest q_windows q_shown q_soWithout u_wide u_high u_slackNow u_tenants u_letters u_readings u_kinds u_painOf u_payFor u_refused u_owned u_litIn u_shapes u_readAt u_meant u_readSo) (P_X0_tellWindows q_sets q_size q_least q_greatest q_shown q_soWithout u_wide u_high u_slackNow u_tenants u_letters u_readings u_kinds u_painOf u_payFor u_refused u_owned u_litIn u_shapes u_readAt u_meant u_readSo r) := by
  rw [f_X0_tellWindows] at h
  refine mm_Ok.of pn_X0 (l := [(0, .ref 0), (1, .ref 4)]) rfl (Nat.le_of_ble_eq_true rfl) ?_
  refine mm_iconst dX0_tellWindows_0 ki_0 (pc' := 1) rfl ?_
  refine mm_istore_n dX0_tellWindows_1 rfl (by decide) (l' := [(2, .int (0 : Int32)), (0, .ref 0), (1, .ref 4)]) rfl (pc' := 2) rfl ?_
  refine mm_iconst dX0_tellWindows_2 ki_0 (pc' := 3) rfl ?_
  refine mm_istore_n dX0_tellWindows_3 rfl (by decide) (l' := [(3, .int (0 : Int32)), (2, .int (0 : Int32)), (0, .ref 0), (1, .ref 4)]) rfl (pc' := 4) rfl ?_
  exact mm_sub [2, 3, 1, 0] rfl (s_X0_tellWindows_L4  _ _ _ _ h)

def P_X0_tellReadings (q_sets : Int32) (q_size : Int32) (q_least : Int32) (q_greatest : Int32) (q_windows : Nat → Int32) (u_wide : Int32) (u_high : Int32) (u_slackNow : Int32) (u_tenants : Int32) (u_letters : Int32) (u_readings : Int32) (u_kinds : Nat → Int32) (u_painOf : Nat → Int32) (u_payFor : Nat → Int32) (u_refused : Nat → Int32) (u_owned : Nat → Int64) (u_litIn : Nat → Int64) (u_shapes : Nat → Int32) (u_readAt : Nat → Int32) (u_meant : Nat → Int32) (u_readSo : Nat → Int32) (r : (Nat → Int64) × (Nat → Int32)) : Option Value → mm_W → Prop := fun rv w => rv = none ∧ w = (W_X0_X5 q_sets q_size q_least q_greatest q_windows r.1 r.2 u_wide u_high u_slackNow u_tenants u_letters u_readings u_kinds u_painOf u_payFor u_refused u_owned u_litIn u_shapes u_readAt u_meant u_readSo)
def X0_tellReadings_J62 (fu : Nat) (rec2 : (Nat → Int64) → (Nat → Int32) → Int32 → Option ((Nat → Int64) × (Nat → Int32))) (q_shown : Nat → Int64) (q_soWithout : Nat → Int32) (u_slackNow : Int32) (u_letters : Int32) (u_readings : Int32) (u_shapes : Nat → Int32) (u_readAt : Nat → Int32) (u_meant : Nat → Int32) (u_readSo : Nat → Int32) (v2 : Int32) (s0 : Int32) (s1 : Int32) : Option ((Nat → Int64) × (Nat → Int32)) := mm_ck 6 s1 (rec2 q_shown (upd q_soWithout s1.toNatClampNeg (vp_nar .boolean s0)) (v2 + (1 : Int32)))
set_option maxHeartbeats 4000000 in
set_option maxRecDepth 100000 in
theorem s_X0_tellReadings_J62 {fu : Nat} {q_sets : Int32} {q_size : Int32} {q_least : Int32} {q_greatest : Int32} {q_windows : Nat → Int32} {q_shown : Nat → Int64} {q_soWithout : Nat → Int32} {u_wide : Int32} {u_high : Int32} {u_slackNow : Int32} {u_tenants : Int32} {u_letters : Int32} {u_readings : Int32} {u_kinds : Nat → Int32} {u_painOf : Nat → Int32} {u_payFor : Nat → Int32} {u_refused : Nat → Int32} {u_owned : Nat → Int64} {u_litIn : Nat → Int64} {u_shapes : Nat → Int32} {u_readAt : Nat → Int32} {u_meant : Nat → Int32} {u_readSo : Nat → Int32} {r : (Nat → Int64) × (Nat → Int32)} {rec2 : (Nat → Int64) → (Nat → Int32) → Int32 → Option ((Nat → Int64) × (Nat → Int32))} {v2 : Int32} {s0 : Int32} {s1 : Int32} (hr2 : ∀ (z_q_shown : Nat → Int64) (z_q_soWithout : Nat → Int32) (y2 : Int32), rec2 z_q_shown z_q_soWithout y2 = some r → mm_Wp mX0_tellReadings (mm_R (P_X0_tellReadings q_sets q_size q_least q_greatest q_windows u_wide u_high u_slackNow u_tenants u_letters u_readings u_kinds u_painOf u_payFor u_refused u_owned u_litIn u_shapes u_readAt u_meant u_readSo r)) 0 0 2 [(0, .ref 0), (1, .ref 4), (2, .int y2)] [] (W_X0_X5 q_sets q_size q_least q_greatest q_windows z_q_shown z_q_soWithout u_wide u_high u_slackNow u_tenants u_letters u_readings u_kinds u_painOf u_payFor u_refused u_owned u_litIn u_shapes u_readAt u_meant u_readSo)) (h : X0_tellReadings_J62 fu rec2 q_shown q_soWithout u_slackNow u_letters u_readings u_shapes u_readAt u_meant u_readSo v2 s0 s1 = some r) : mm_Wp mX0_tellReadings (mm_R (P_X0_tellReadings q_sets q_size q_least q_greatest q_windows u_wide u_high u_slackNow u_tenants u_letters u_readings u_kinds u_painOf u_payFor u_refused u_owned u_litIn u_shapes u_readAt u_meant u_readSo r)) 0 0 62 [(0, .ref 0), (1, .ref 4), (2, .int v2)] [.int s0, .int s1, .ref 3] (W_X0_X5 q_sets q_size q_least q_greatest q_windows q_shown q_soWithout u_wide u_high u_slackNow u_tenants u_letters u_readings u_kinds u_painOf u_payFor u_refused u_owned u_litIn u_shapes u_readAt u_meant u_readSo) := by
  rw [X0_tellReadings_J62] at h
  obtain ⟨c62, h⟩ := mm_ck_of h
  refine mm_zast dX0_tellReadings_62 rfl c62 rfl (ws' := (W_X0_X5 q_sets q_size q_least q_greatest q_windows q_shown (upd q_soWithout s1.toNatClampNeg (vp_nar .boolean s0)) u_wide u_high u_slackNow u_tenants u_letters u_readings u_kinds u_painOf u_payFor u_refused u_owned u_litIn u_shapes u_readAt u_meant u_readSo)) rfl (pc' := 63) rfl ?_
  clear c62
  refine mm_iinc 2 dX0_tellReadings_63 rfl ki_1 (by decide) (l' := [(2, .int (v2 + (1 : Int32))), (0, .ref 0), (1, .ref 4)]) rfl (pc' := 66) rfl ?_
  refine mm_goto (tgt := 2) dX0_tellReadings_66 (by decide) ?_
  exact mm_sub [1, 2, 0] rfl (hr2 _ _ _ h)
def X0_tellReadings_L2 (fu : Nat)  (u_slackNow : Int32) (u_letters : Int32) (u_readings : Int32) (u_shapes : Nat → Int32) (u_readAt : Nat → Int32) (u_meant : Nat → Int32) (u_readSo : Nat → Int32)  : Nat → (Nat → Int64) → (Nat → Int32) → Int32 → Option ((Nat → Int64) × (Nat → Int32))
  | 0, _, _, _ => none
  | n + 1, q_shown, q_soWithout, v2 => if u_readings ≤ v2 then (some (q_shown, q_soWithout)) else (mm_rd u_meant 6 v2 fun x19 => mm_rd u_shapes 6 x19 fun x20 => mm_rd u_readAt 6 v2 fun x33 => (f_X7_windowsOf fu x20 x33).bind fun t34 => mm_ck 6 v2 ((f_X5_readAs fu u_slackNow u_letters u_shapes x20).bind fun t45 => mm_rd u_readSo 6 v2 fun x53 => if t45 = x53 then (X0_tellReadings_J62 fu (X0_tellReadings_L2 fu u_slackNow u_letters u_readings u_shapes u_readAt u_meant u_readSo n) (vp_updL q_shown v2.toNatClampNeg t34) q_soWithout u_slackNow u_letters u_readings u_shapes u_readAt u_meant u_readSo v2 (1 : Int32) v2) else (X0_tellReadings_J62 fu (X0_tellReadings_L2 fu u_slackNow u_letters u_readings u_shapes u_readAt u_meant u_readSo n) (vp_updL q_shown v2.toNatClampNeg t34) q_soWithout u_slackNow u_letters u_readings u_shapes u_readAt u_meant u_readSo v2 (0 : Int32) v2)))
set_option maxHeartbeats 4000000 in
set_option maxRecDepth 100000 in
theorem s_X0_tellReadings_L2 {fu : Nat} {q_sets : Int32} {q_size : Int32} {q_least : Int32} {q_greatest : Int32} {q_windows : Nat → Int32} {u_wide : Int32} {u_high : Int32} {u_slackNow : Int32} {u_tenants : Int32} {u_letters : Int32} {u_readings : Int32} {u_kinds : Nat → Int32} {u_painOf : Nat → Int32} {u_payFor : Nat → Int32} {u_refused : Nat → Int32} {u_owned : Nat → Int64} {u_litIn : Nat → Int64} {u_shapes : Nat → Int32} {u_readAt : Nat → Int32} {u_meant : Nat → Int32} {u_readSo : Nat → Int32} {r : (Nat → Int64) × (Nat → Int32)} : ∀ (n : Nat) (q_shown : Nat → Int64) (q_soWithout : Nat → Int32) (v2 : Int32), X0_tellReadings_L2 fu u_slackNow u_letters u_readings u_shapes u_readAt u_meant u_readSo n q_shown q_soWithout v2 = some r → mm_Wp mX0_tellReadings (mm_R (P_X0_tellReadings q_sets q_size q_least q_greatest q_windows u_wide u_high u_slackNow u_tenants u_letters u_readings u_kinds u_painOf u_payFor u_refused u_owned u_litIn u_shapes u_readAt u_meant u_readSo r)) 0 0 2 [(0, .ref 0), (1, .ref 4), (2, .int v2)] [] (W_X0_X5 q_sets q_size q_least q_greatest q_windows q_shown q_soWithout u_wide u_high u_slackNow u_tenants u_letters u_readings u_kinds u_painOf u_payFor u_refused u_owned u_litIn u_shapes u_readAt u_meant u_readSo) := by
  intro n
  induction n with
  | zero =>
    intro q_shown q_soWithout v2 h
    rw [X0_tellReadings_L2] at h
    cases h
  | succ n hr2 =>
    intro q_shown q_soWithout v2 h
    rw [X0_tellReadings_L2] at h
    refine mm_iload_n 2 dX0_tellReadings_2 rfl rfl (pc' := 3) rfl ?_
    refine mm_aload_n 1 dX0_tellReadings_3 rfl rfl (pc' := 4) rfl ?_
    refine mm_getf fG_X0_54 dX0_tellReadings_4 rfl rfl (pc' := 7) rfl ?_
    refine mm_icmp_ge (tgt := 69) dX0_tellReadings_7 (by decide) (pc' := 10) rfl (fun c => ?_) (fun c => ?_)
    · replace h := mm_it h c
      clear c
      have h9 := Option.some.inj h
      subst h9
      exact mm_vret rfl dX0_tellReadings_69 ⟨rfl, rfl⟩
    · replace h := mm_if h c
      clear c
      refine mm_aload_n 1 dX0_tellReadings_10 rfl rfl (pc' := 11) rfl ?_
      refine mm_getf fG_X0_57 dX0_tellReadings_11 rfl rfl (pc' := 14) rfl ?_
      refine mm_aload_n 1 dX0_tellReadings_14 rfl rfl (pc' := 15) rfl ?_
      refine mm_getf fG_X0_60 dX0_tellReadings_15 rfl rfl (pc' := 18) rfl ?_
      refine mm_iload_n 2 dX0_tellReadings_18 rfl rfl (pc' := 19) rfl ?_
      obtain ⟨x19, c19, e19, h⟩ := mm_rd_of h
      refine mm_iald dX0_tellReadings_19 rfl c19 e19 (pc' := 20) rfl ?_
      clear c19 e19
      obtain ⟨x20, c20, e20, h⟩ := mm_rd_of h
      refine mm_iald dX0_tellReadings_20 rfl c20 e20 (pc' := 21) rfl ?_
      clear c20 e20
      refine mm_istore_n dX0_tellReadings_21 rfl (by decide) (l' := [(3, .int x20), (0, .ref 0), (1, .ref 4), (2, .int v2)]) rfl (pc' := 22) rfl ?_
      refine mm_aload_n 1 dX0_tellReadings_22 rfl rfl (pc' := 23) rfl ?_
      refine mm_getf fG_X0_28 dX0_tellReadings_23 rfl rfl (pc' := 26) rfl ?_
      refine mm_iload_n 3 dX0_tellReadings_26 rfl rfl (pc' := 27) rfl ?_
      refine mm_iload_n 0 dX0_tellReadings_27 rfl rfl (pc' := 28) rfl ?_
      refine mm_aload_n 2 dX0_tellReadings_28 rfl rfl (pc' := 29) rfl ?_
      refine mm_getf fG_X0_63 dX0_tellReadings_29 rfl rfl (pc' := 32) rfl ?_
      refine mm_iload_n 3 dX0_tellReadings_32 rfl rfl (pc' := 33) rfl ?_
      obtain ⟨x33, c33, e33, h⟩ := mm_rd_of h
      refine mm_iald dX0_tellReadings_33 rfl c33 e33 (pc' := 34) rfl ?_
      clear c33 e33
      obtain ⟨t34, h34, h⟩ := mm_bd h
      refine mm_callSN (As := [.int x20, .int x33]) (rest := [.int v2, .ref 2]) (av := [.int x20, .int x33]) (wc := []) (is := []) cN_X0_66 (ok_X7_windowsOf h34) ⟨rfl, rfl, Nat.le_of_ble_eq_true rfl, Nat.le_of_ble_eq_true rfl⟩ dX0_tellReadings_34 rfl rfl rfl ⟨rfl, by decide, by decide⟩ (by rintro _ _ ⟨-, rfl⟩; rfl) (Nat.le_of_ble_eq_true rfl) ⟨Nat.le_of_ble_eq_true rfl, Nat.le_of_ble_eq_true rfl⟩ (pc' := 37) rfl ?_
      rintro rv w ⟨rfl, rfl⟩
      show mm_Wp _ _ _ _ 37 [(3, .int x20), (0, .ref 0), (1, .ref 4), (2, .int v2)] [.long t34, .int v2, .ref 2] (W_X0_X5 q_sets q_size q_least q_greatest q_windows q_shown q_soWithout u_wide u_high u_slackNow u_tenants u_letters u_readings u_kinds u_painOf u_payFor u_refused u_owned u_litIn u_shapes u_readAt u_meant u_readSo)
      clear h34
      obtain ⟨c37, h⟩ := mm_ck_of h
      refine mm_last dX0_tellReadings_37 rfl c37 rfl (ws' := (W_X0_X5 q_sets q_size q_least q_greatest q_windows (vp_updL q_shown v2.toNatClampNeg t34) q_soWithout u_wide u_high u_slackNow u_tenants u_letters u_readings u_kinds u_painOf u_payFor u_refused u_owned u_litIn u_shapes u_readAt u_meant u_readSo)) rfl (pc' := 38) rfl ?_
      clear c37
      refine mm_aload_n 1 dX0_tellReadings_38 rfl rfl (pc' := 39) rfl ?_
      refine mm_getf fG_X0_32 dX0_tellReadings_39 rfl rfl (pc' := 42) rfl ?_
      refine mm_iload_n 3 dX0_tellReadings_42 rfl rfl (pc' := 43) rfl ?_
      refine mm_aload_n 2 dX0_tellReadings_43 rfl rfl (pc' := 44) rfl ?_
      refine mm_iload_n 0 dX0_tellReadings_44 rfl rfl (pc' := 45) rfl ?_
      obtain ⟨t45, h45, h⟩ := mm_bd h
      refine mm_callV (As := [.int x20]) (rest := [.int v2, .ref 3]) (av := [.ref 0, .int x20]) (wc := (W_X5 u_wide u_high u_slackNow u_tenants u_letters u_readings u_kinds u_painOf u_payFor u_refused u_owned u_litIn u_shapes u_readAt u_meant u_readSo)) (is := [4, 5, 6, 7, 8, 9, 10, 11, 12, 13, 14]) cV_X0_70 (ok_X5_readAs h45) ⟨rfl, rfl, Nat.le_of_ble_eq_true rfl, Nat.le_of_ble_eq_true rfl⟩ dX0_tellReadings_45 rfl rfl rfl rfl rfl ⟨rfl, by decide, by decide⟩ (by rintro _ _ ⟨-, rfl⟩; rfl) (Nat.le_of_ble_eq_true rfl) ⟨Nat.le_of_ble_eq_true rfl, Nat.le_of_ble_eq_true rfl⟩ (pc' := 48) rfl ?_
      rintro rv w ⟨rfl, rfl⟩
      show mm_Wp _ _ _ _ 48 [(3, .int x20), (0, .ref 0), (1, .ref 4), (2, .int v2)] [.int t45, .int v2, .ref 3] (W_X0_X5 q_sets q_size q_least q_greatest q_windows (vp_updL q_shown v2.toNatClampNeg t34) q_soWithout u_wide u_high u_slackNow u_tenants u_letters u_readings u_kinds u_painOf u_payFor u_refused u_owned u_litIn u_shapes u_readAt u_meant u_readSo)
      clear h45
      refine mm_aload_n 2 dX0_tellReadings_48 rfl rfl (pc' := 49) rfl ?_
      refine mm_getf fG_X0_74 dX0_tellReadings_49 rfl rfl (pc' := 52) rfl ?_
      refine mm_iload_n 3 dX0_tellReadings_52 rfl rfl (pc' := 53) rfl ?_
      obtain ⟨x53, c53, e53, h⟩ := mm_rd_of h
      refine mm_iald dX0_tellReadings_53 rfl c53 e53 (pc' := 54) rfl ?_
      clear c53 e53
      refine mm_icmp_ne (tgt := 61) dX0_tellReadings_54 (by decide) (pc' := 57) rfl (fun c => ?_) (fun c => ?_)
      · replace h := mm_if h c
        clear c
        refine mm_iconst dX0_tellReadings_61 ki_0 (pc' := 62) rfl ?_
        exact mm_sub [1, 2, 3] rfl (s_X0_tellReadings_J62 (hr2 := hr2) h)
      · replace h := mm_it h c
        clear c
        refine mm_iconst dX0_tellReadings_57 ki_1 (pc' := 58) rfl ?_
        refine mm_goto (tgt := 62) dX0_tellReadings_58 (by decide) ?_
        exact mm_sub [1, 2, 3] rfl (s_X0_tellReadings_J62 (hr2 := hr2) h)
def f_X0_tellReadings (fu : Nat) (q_shown : Nat → Int64) (q_soWithout : Nat → Int32) (u_slackNow : Int32) (u_letters : Int32) (u_readings : Int32) (u_shapes : Nat → Int32) (u_readAt : Nat → Int32) (u_meant : Nat → Int32) (u_readSo : Nat → Int32) : Option ((Nat → Int64) × (Nat → Int32)) := X0_tellReadings_L2 fu u_slackNow u_letters u_readings u_shapes u_readAt u_meant u_readSo fu q_shown q_soWithout (0 : Int32)
set_option maxHeartbeats 4000000 in
set_option maxRecDepth 100000 in
theorem ok_X0_tellReadings {fu : Nat} {q_sets : Int32} {q_size : Int32} {q_least : Int32} {q_greatest : Int32} {q_windows : Nat → Int32} {q_shown : Nat → Int64} {q_soWithout : Nat → Int32} {u_wide : Int32} {u_high : Int32} {u_slackNow : Int32} {u_tenants : Int32} {u_letters : Int32} {u_readings : Int32} {u_kinds : Nat → Int32} {u_painOf : Nat → Int32} {u_payFor : Nat → Int32} {u_refused : Nat → Int32} {u_owned : Nat → Int64} {u_litIn : Nat → Int64} {u_shapes : Nat → Int32} {u_readAt : Nat → Int32} {u_meant : Nat → Int32} {u_readSo : Nat → Int32} {r : (Nat → Int64) × (Nat → Int32)} (h : f_X0_tellReadings fu q_shown q_soWithout u_slackNow u_letters u_readings u_shapes u_readAt u_meant u_readSo = some r) : mm_Ok mX0_tellReadings [.ref 0, .ref 4] (W_X0_X5 q_sets q_size q_least q_greatest q_windows q_shown q_soWithout u_wide u_high u_slackNow u_tenants u_letters u_readings u_kinds u_painOf u_payFor u_refused u_owned u_litIn u_shapes u_readAt u_meant u_readSo) (P_X0_tellReadings q_sets q_size q_least q_greatest q_windows u_wide u_high u_slackNow u_tenants u_letters u_readings u_kinds u_painOf u_payFor u_refused u_owned u_litIn u_shapes u_readAt u_meant u_readSo r) := by
  rw [f_X0_tellReadings] at h
  refine mm_Ok.of pn_X0 (l := [(0, .ref 0), (1, .ref 4)]) rfl (Nat.le_of_ble_eq_true rfl) ?_
  refine mm_iconst dX0_tellReadings_0 ki_0 (pc' := 1) rfl ?_
  refine mm_istore_n dX0_tellReadings_1 rfl (by decide) (l' := [(2, .int (0 : Int32)), (0, .ref 0), (1, .ref 4)]) rfl (pc' := 2) rfl ?_
  exact mm_sub [1, 2, 0] rfl (s_X0_tellReadings_L2  _ _ _ _ h)

def P_X0_tells (q_sets : Int32) (q_size : Int32) (q_least : Int32) (q_greatest : Int32) (q_windows : Nat → Int32) (q_shown : Nat → Int64) (q_soWithout : Nat → Int32) (u_wide : Int32) (u_high : Int32) (u_slackNow : Int32) (u_tenants : Int32) (u_letters : Int32) (u_readings : Int32) (u_kinds : Nat → Int32) (u_painOf : Nat → Int32) (u_payFor : Nat → Int32) (u_refused : Nat → Int32) (u_owned : Nat → Int64) (u_litIn : Nat → Int64) (u_shapes : Nat → Int32) (u_readAt : Nat → Int32) (u_meant : Nat → Int32) (u_readSo : Nat → Int32) (r : Int32) : Option Value → mm_W → Prop := fun rv w => rv = some (.int r) ∧ w = (W_X0_X5 q_sets q_size q_least q_greatest q_windows q_shown q_soWithout u_wide u_high u_slackNow u_tenants u_letters u_readings u_kinds u_painOf u_payFor u_refused u_owned u_litIn u_shapes u_readAt u_meant u_readSo)
def f_X0_tells (fu : Nat) (q_shown : Nat → Int64) (q_soWithout : Nat → Int32) (u_slackNow : Int32) (u_letters : Int32) (u_shapes : Nat → Int32) (u_readAt : Nat → Int32) (u_readSo : Nat → Int32) (v2 : Int32) (v3 : Int64) : Option (Int32) := mm_rd q_shown 6 v2 fun x5 => if (lg_cmp (x5 &&& v3) (0 : Int64)) = 0 then (mm_rd q_soWithout 6 v2 fun x18 => mm_gd (mm_zb x18) (some (x18))) else (mm_rd q_shown 6 v2 fun x26 => mm_rd u_readAt 6 v2 fun x38 => (f_X7_shapeIn fu (x26 &&& (v3 ^^^ (-1 : Int64))) x38).bind fun t39 => (f_X5_readAs fu u_slackNow u_letters u_shapes t39).bind fun t42 => mm_rd u_readSo 6 v2 fun x50 => if t42 = x50 then (some ((1 : Int32))) else (some ((0 : Int32))))
set_option maxHeartbeats 4000000 in
set_option maxRecDepth 100000 in
theorem ok_X0_tells {fu : Nat} {q_sets : Int32} {q_size : Int32} {q_least : Int32} {q_greatest : Int32} {q_windows : Nat → Int32} {q_shown : Nat → Int64} {q_soWithout : Nat → Int32} {u_wide : Int32} {u_high : Int32} {u_slackNow : Int32} {u_tenants : Int32} {u_letters : Int32} {u_readings : Int32} {u_kinds : Nat → Int32} {u_painOf : Nat → Int32} {u_payFor : Nat → Int32} {u_refused : Nat → Int32} {u_owned : Nat → Int64} {u_litIn : Nat → Int64} {u_shapes : Nat → Int32} {u_readAt : Nat → Int32} {u_meant : Nat → Int32} {u_readSo : Nat → Int32} {r : Int32} {v2 : Int32} {v3 : Int64} (h : f_X0_tells fu q_shown q_soWithout u_slackNow u_letters u_shapes u_readAt u_readSo v2 v3 = some r) : mm_Ok mX0_tells [.ref 0, .ref 4, .int v2, .long v3] (W_X0_X5 q_sets q_size q_least q_greatest q_windows q_shown q_soWithout u_wide u_high u_slackNow u_tenants u_letters u_readings u_kinds u_painOf u_payFor u_refused u_owned u_litIn u_shapes u_readAt u_meant u_readSo) (P_X0_tells q_sets q_size q_least q_greatest q_windows q_shown q_soWithout u_wide u_high u_slackNow u_tenants u_letters u_readings u_kinds u_painOf u_payFor u_refused u_owned u_litIn u_shapes u_readAt u_meant u_readSo r) := by
  rw [f_X0_tells] at h
  refine mm_Ok.of pn_X0 (l := [(0, .ref 0), (1, .ref 4), (2, .int v2), (3, .long v3)]) rfl (Nat.le_of_ble_eq_true rfl) ?_
  refine mm_aload_n 0 dX0_tells_0 rfl rfl (pc' := 1) rfl ?_
  refine mm_getf fG_X0_28 dX0_tells_1 rfl rfl (pc' := 4) rfl ?_
  refine mm_iload_n 2 dX0_tells_4 rfl rfl (pc' := 5) rfl ?_
  obtain ⟨x5, c5, e5, h⟩ := mm_rd_of h
  refine mm_lald dX0_tells_5 rfl c5 e5 (pc' := 6) rfl ?_
  clear c5 e5
  refine mm_lload_n 3 dX0_tells_6 rfl rfl (pc' := 7) rfl ?_
  refine mm_land dX0_tells_7 (pc' := 8) rfl ?_
  refine mm_lconst dX0_tells_8 (by decide : _ = (0 : Int64)) (pc' := 9) rfl ?_
  refine mm_lcmp dX0_tells_9 (pc' := 10) rfl ?_
  refine mm_if_ne (tgt := 20) dX0_tells_10 (by decide) (pc' := 13) rfl (fun c => ?_) (fun c => ?_)
  · replace h := mm_if h c
    clear c
    refine mm_aload_n 1 dX0_tells_20 rfl rfl (pc' := 21) rfl ?_
    refine mm_aload_n 0 dX0_tells_21 rfl rfl (pc' := 22) rfl ?_
    refine mm_getf fG_X0_28 dX0_tells_22 rfl rfl (pc' := 25) rfl ?_
    refine mm_iload_n 2 dX0_tells_25 rfl rfl (pc' := 26) rfl ?_
    obtain ⟨x26, c26, e26, h⟩ := mm_rd_of h
    refine mm_lald dX0_tells_26 rfl c26 e26 (pc' := 27) rfl ?_
    clear c26 e26
    refine mm_lload_n 3 dX0_tells_27 rfl rfl (pc' := 28) rfl ?_
    refine mm_ldc2 kC_X0_85 dX0_tells_28 (pc' := 31) rfl ?_
    refine mm_lxor dX0_tells_31 (pc' := 32) rfl ?_
    refine mm_land dX0_tells_32 (pc' := 33) rfl ?_
    refine mm_aload_n 1 dX0_tells_33 rfl rfl (pc' := 34) rfl ?_
    refine mm_getf fG_X0_63 dX0_tells_34 rfl rfl (pc' := 37) rfl ?_
    refine mm_iload_n 2 dX0_tells_37 rfl rfl (pc' := 38) rfl ?_
    obtain ⟨x38, c38, e38, h⟩ := mm_rd_of h
    refine mm_iald dX0_tells_38 rfl c38 e38 (pc' := 39) rfl ?_
    clear c38 e38
    obtain ⟨t39, h39, h⟩ := mm_bd h
    refine mm_callSN (As := [.long (x26 &&& (v3 ^^^ (-1 : Int64))), .int x38]) (rest := [.ref 4]) (av := [.long (x26 &&& (v3 ^^^ (-1 : Int64))), .int x38]) (wc := []) (is := []) cN_X0_87 (ok_X7_shapeIn h39) ⟨rfl, rfl, Nat.le_of_ble_eq_true rfl, Nat.le_of_ble_eq_true rfl⟩ dX0_tells_39 rfl rfl rfl ⟨rfl, by decide, by decide⟩ (by rintro _ _ ⟨-, rfl⟩; rfl) (Nat.le_of_ble_eq_true rfl) ⟨Nat.le_of_ble_eq_true rfl, Nat.le_of_ble_eq_true rfl⟩ (pc' := 42) rfl ?_
    rintro rv w ⟨rfl, rfl⟩
    show mm_Wp _ _ _ _ 42 [(0, .ref 0), (1, .ref 4), (2, .int v2), (3, .long v3)] [.int t39, .ref 4] (W_X0_X5 q_sets q_size q_least q_greatest q_windows q_shown q_soWithout u_wide u_high u_slackNow u_tenants u_letters u_readings u_kinds u_painOf u_payFor u_refused u_owned u_litIn u_shapes u_readAt u_meant u_readSo)
    clear h39
    obtain ⟨t42, h42, h⟩ := mm_bd h
    refine mm_callV (As := [.int t39]) (rest := []) (av := [.ref 0, .int t39]) (wc := (W_X5 u_wide u_high u_slackNow u_tenants u_letters u_readings u_kinds u_painOf u_payFor u_refused u_owned u_litIn u_shapes u_readAt u_meant u_readSo)) (is := [4, 5, 6, 7, 8, 9, 10, 11, 12, 13, 14]) cV_X0_70 (ok_X5_readAs h42) ⟨rfl, rfl, Nat.le_of_ble_eq_true rfl, Nat.le_of_ble_eq_true rfl⟩ dX0_tells_42 rfl rfl rfl rfl rfl ⟨rfl, by decide, by decide⟩ (by rintro _ _ ⟨-, rfl⟩; rfl) (Nat.le_of_ble_eq_true rfl) ⟨Nat.le_of_ble_eq_true rfl, Nat.le_of_ble_eq_true rfl⟩ (pc' := 45) rfl ?_
    rintro rv w ⟨rfl, rfl⟩
    show mm_Wp _ _ _ _ 45 [(0, .ref 0), (1, .ref 4), (2, .int v2), (3, .long v3)] [.int t42] (W_X0_X5 q_sets q_size q_least q_greatest q_windows q_shown q_soWithout u_wide u_high u_slackNow u_tenants u_letters u_readings u_kinds u_painOf u_payFor u_refused u_owned u_litIn u_shapes u_readAt u_meant u_readSo)
    clear h42
    refine mm_aload_n 1 dX0_tells_45 rfl rfl (pc' := 46) rfl ?_
    refine mm_getf fG_X0_74 dX0_tells_46 rfl rfl (pc' := 49) rfl ?_
    refine mm_iload_n 2 dX0_tells_49 rfl rfl (pc' := 50) rfl ?_
    obtain ⟨x50, c50, e50, h⟩ := mm_rd_of h
    refine mm_iald dX0_tells_50 rfl c50 e50 (pc' := 51) rfl ?_
    clear c50 e50
    refine mm_icmp_ne (tgt := 58) dX0_tells_51 (by decide) (pc' := 54) rfl (fun c => ?_) (fun c => ?_)
    · replace h := mm_if h c
      clear c
      refine mm_iconst dX0_tells_58 ki_0 (pc' := 59) rfl ?_
      have h9 := Option.some.inj h
      subst h9
      exact mm_zret rfl (by decide) dX0_tells_59 ⟨rfl, rfl⟩
    · replace h := mm_it h c
      clear c
      refine mm_iconst dX0_tells_54 ki_1 (pc' := 55) rfl ?_
      refine mm_goto (tgt := 59) dX0_tells_55 (by decide) ?_
      have h9 := Option.some.inj h
      subst h9
      exact mm_zret rfl (by decide) dX0_tells_59 ⟨rfl, rfl⟩
  · replace h := mm_it h c
    clear c
    refine mm_aload_n 0 dX0_tells_13 rfl rfl (pc' := 14) rfl ?_
    refine mm_getf fG_X0_32 dX0_tells_14 rfl rfl (pc' := 17) rfl ?_
    refine mm_iload_n 2 dX0_tells_17 rfl rfl (pc' := 18) rfl ?_
    obtain ⟨x18, c18, e18, h⟩ := mm_rd_of h
    refine mm_zald dX0_tells_18 rfl c18 e18 (pc' := 19) rfl ?_
    clear c18 e18
    obtain ⟨c, h⟩ := mm_gd_of h
    have h9 := Option.some.inj h
    subst h9
    exact mm_zret rfl (mm_zb_of c) dX0_tells_19 ⟨rfl, rfl⟩

def P_X0_tellsAll (q_sets : Int32) (q_size : Int32) (q_least : Int32) (q_greatest : Int32) (q_windows : Nat → Int32) (q_shown : Nat → Int64) (q_soWithout : Nat → Int32) (u_wide : Int32) (u_high : Int32) (u_slackNow : Int32) (u_tenants : Int32) (u_letters : Int32) (u_readings : Int32) (u_kinds : Nat → Int32) (u_painOf : Nat → Int32) (u_payFor : Nat → Int32) (u_refused : Nat → Int32) (u_owned : Nat → Int64) (u_litIn : Nat → Int64) (u_shapes : Nat → Int32) (u_readAt : Nat → Int32) (u_meant : Nat → Int32) (u_readSo : Nat → Int32) (r : Int32) : Option Value → mm_W → Prop := fun rv w => rv = some (.int r) ∧ w = (W_X0_X5 q_sets q_size q_least q_greatest q_windows q_shown q_soWithout u_wide u_high u_slackNow u_tenants u_letters u_readings u_kinds u_painOf u_payFor u_refused u_owned u_litIn u_shapes u_readAt u_meant u_readSo)
def X0_tellsAll_L3 (fu : Nat)  (q_shown : Nat → Int64) (q_soWithout : Nat → Int32) (u_slackNow : Int32) (u_letters : Int32) (u_readings : Int32) (u_shapes : Nat → Int32) (u_readAt : Nat → Int32) (u_readSo : Nat → Int32) (v2 : Int64) : Nat → Int32 → Option (Int32)
  | 0, _ => none
  | n + 1, v4 => if u_readings ≤ v4 then (some ((1 : Int32))) else ((f_X0_tells fu q_shown q_soWithout u_slackNow u_letters u_shapes u_readAt u_readSo v4 v2).bind fun t17 => if t17 = 0 then (some ((0 : Int32))) else ((X0_tellsAll_L3 fu q_shown q_soWithout u_slackNow u_letters u_readings u_shapes u_readAt u_readSo v2 n) (v4 + (1 : Int32))))
set_option maxHeartbeats 4000000 in
set_option maxRecDepth 100000 in
theorem s_X0_tellsAll_L3 {fu : Nat} {q_sets : Int32} {q_size : Int32} {q_least : Int32} {q_greatest : Int32} {q_windows : Nat → Int32} {q_shown : Nat → Int64} {q_soWithout : Nat → Int32} {u_wide : Int32} {u_high : Int32} {u_slackNow : Int32} {u_tenants : Int32} {u_letters : Int32} {u_readings : Int32} {u_kinds : Nat → Int32} {u_painOf : Nat → Int32} {u_payFor : Nat → Int32} {u_refused : Nat → Int32} {u_owned : Nat → Int64} {u_litIn : Nat → Int64} {u_shapes : Nat → Int32} {u_readAt : Nat → Int32} {u_meant : Nat → Int32} {u_readSo : Nat → Int32} {r : Int32} {v2 : Int64} : ∀ (n : Nat) (v4 : Int32), X0_tellsAll_L3 fu q_shown q_soWithout u_slackNow u_letters u_readings u_shapes u_readAt u_readSo v2 n v4 = some r → mm_Wp mX0_tellsAll (mm_R (P_X0_tellsAll q_sets q_size q_least q_greatest q_windows q_shown q_soWithout u_wide u_high u_slackNow u_tenants u_letters u_readings u_kinds u_painOf u_payFor u_refused u_owned u_litIn u_shapes u_readAt u_meant u_readSo r)) 0 0 3 [(0, .ref 0), (1, .ref 4), (2, .long v2), (4, .int v4)] [] (W_X0_X5 q_sets q_size q_least q_greatest q_windows q_shown q_soWithout u_wide u_high u_slackNow u_tenants u_letters u_readings u_kinds u_painOf u_payFor u_refused u_owned u_litIn u_shapes u_readAt u_meant u_readSo) := by
  intro n
  induction n with
  | zero =>
    intro v4 h
    rw [X0_tellsAll_L3] at h
    cases h
  | succ n hr3 =>
    intro v4 h
    rw [X0_tellsAll_L3] at h
    refine mm_iload 3 dX0_tellsAll_3 rfl (pc' := 5) rfl ?_
    refine mm_aload_n 1 dX0_tellsAll_5 rfl rfl (pc' := 6) rfl ?_
    refine mm_getf fG_X0_54 dX0_tellsAll_6 rfl rfl (pc' := 9) rfl ?_
    refine mm_icmp_ge (tgt := 31) dX0_tellsAll_9 (by decide) (pc' := 12) rfl (fun c => ?_) (fun c => ?_)
    · replace h := mm_it h c
      clear c
      refine mm_iconst dX0_tellsAll_31 ki_1 (pc' := 32) rfl ?_
      have h9 := Option.some.inj h
      subst h9
      exact mm_zret rfl (by decide) dX0_tellsAll_32 ⟨rfl, rfl⟩
    · replace h := mm_if h c
      clear c
      refine mm_aload_n 0 dX0_tellsAll_12 rfl rfl (pc' := 13) rfl ?_
      refine mm_aload_n 1 dX0_tellsAll_13 rfl rfl (pc' := 14) rfl ?_
      refine mm_iload 3 dX0_tellsAll_14 rfl (pc' := 16) rfl ?_
      refine mm_lload_n 2 dX0_tellsAll_16 rfl rfl (pc' := 17) rfl ?_
      obtain ⟨t17, h17, h⟩ := mm_bd h
      refine mm_call0 (As := [.ref 4, .int v4, .long v2]) (rest := []) cV_X0_81 (ok_X0_tells h17) ⟨rfl, rfl, Nat.le_of_ble_eq_true rfl, Nat.le_of_ble_eq_true rfl⟩ dX0_tellsAll_17 rfl rfl rfl rfl (by rintro _ _ ⟨-, rfl⟩; rfl) (Nat.le_of_ble_eq_true rfl) ⟨Nat.le_of_ble_eq_true rfl, Nat.le_of_ble_eq_true rfl⟩ (pc' := 20) rfl ?_
      rintro rv w ⟨rfl, rfl⟩
      show mm_Wp _ _ _ _ 20 [(0, .ref 0), (1, .ref 4), (2, .long v2), (4, .int v4)] [.int t17] (W_X0_X5 q_sets q_size q_least q_greatest q_windows q_shown q_soWithout u_wide u_high u_slackNow u_tenants u_letters u_readings u_kinds u_painOf u_payFor u_refused u_owned u_litIn u_shapes u_readAt u_meant u_readSo)
      clear h17
      refine mm_if_ne (tgt := 25) dX0_tellsAll_20 (by decide) (pc' := 23) rfl (fun c => ?_) (fun c => ?_)
      · replace h := mm_if h c
        clear c
        refine mm_iinc 3 dX0_tellsAll_25 rfl ki_1 (by decide) (l' := [(4, .int (v4 + (1 : Int32))), (0, .ref 0), (1, .ref 4), (2, .long v2)]) rfl (pc' := 28) rfl ?_
        refine mm_goto (tgt := 3) dX0_tellsAll_28 (by decide) ?_
        exact mm_sub [1, 2, 3, 0] rfl (hr3 _ h)
      · replace h := mm_it h c
        clear c
        refine mm_iconst dX0_tellsAll_23 ki_0 (pc' := 24) rfl ?_
        have h9 := Option.some.inj h
        subst h9
        exact mm_zret rfl (by decide) dX0_tellsAll_24 ⟨rfl, rfl⟩
def f_X0_tellsAll (fu : Nat) (q_shown : Nat → Int64) (q_soWithout : Nat → Int32) (u_slackNow : Int32) (u_letters : Int32) (u_readings : Int32) (u_shapes : Nat → Int32) (u_readAt : Nat → Int32) (u_readSo : Nat → Int32) (v2 : Int64) : Option (Int32) := X0_tellsAll_L3 fu q_shown q_soWithout u_slackNow u_letters u_readings u_shapes u_readAt u_readSo v2 fu (0 : Int32)
set_option maxHeartbeats 4000000 in
set_option maxRecDepth 100000 in
theorem ok_X0_tellsAll {fu : Nat} {q_sets : Int32} {q_size : Int32} {q_least : Int32} {q_greatest : Int32} {q_windows : Nat → Int32} {q_shown : Nat → Int64} {q_soWithout : Nat → Int32} {u_wide : Int32} {u_high : Int32} {u_slackNow : Int32} {u_tenants : Int32} {u_letters : Int32} {u_readings : Int32} {u_kinds : Nat → Int32} {u_painOf : Nat → Int32} {u_payFor : Nat → Int32} {u_refused : Nat → Int32} {u_owned : Nat → Int64} {u_litIn : Nat → Int64} {u_shapes : Nat → Int32} {u_readAt : Nat → Int32} {u_meant : Nat → Int32} {u_readSo : Nat → Int32} {r : Int32} {v2 : Int64} (h : f_X0_tellsAll fu q_shown q_soWithout u_slackNow u_letters u_readings u_shapes u_readAt u_readSo v2 = some r) : mm_Ok mX0_tellsAll [.ref 0, .ref 4, .long v2] (W_X0_X5 q_sets q_size q_least q_greatest q_windows q_shown q_soWithout u_wide u_high u_slackNow u_tenants u_letters u_readings u_kinds u_painOf u_payFor u_refused u_owned u_litIn u_shapes u_readAt u_meant u_readSo) (P_X0_tellsAll q_sets q_size q_least q_greatest q_windows q_shown q_soWithout u_wide u_high u_slackNow u_tenants u_letters u_readings u_kinds u_painOf u_payFor u_refused u_owned u_litIn u_shapes u_readAt u_meant u_readSo r) := by
  rw [f_X0_tellsAll] at h
  refine mm_Ok.of pn_X0 (l := [(0, .ref 0), (1, .ref 4), (2, .long v2)]) rfl (Nat.le_of_ble_eq_true rfl) ?_
  refine mm_iconst dX0_tellsAll_0 ki_0 (pc' := 1) rfl ?_
  refine mm_istore dX0_tellsAll_1 (by decide) (l' := [(4, .int (0 : Int32)), (0, .ref 0), (1, .ref 4), (2, .long v2)]) rfl (pc' := 3) rfl ?_
  exact mm_sub [1, 2, 3, 0] rfl (s_X0_tellsAll_L3  _ _ h)

def P_X0_look (q_windows : Nat → Int32) (q_shown : Nat → Int64) (q_soWithout : Nat → Int32) (u_wide : Int32) (u_high : Int32) (u_slackNow : Int32) (u_tenants : Int32) (u_letters : Int32) (u_readings : Int32) (u_kinds : Nat → Int32) (u_painOf : Nat → Int32) (u_payFor : Nat → Int32) (u_refused : Nat → Int32) (u_owned : Nat → Int64) (u_litIn : Nat → Int64) (u_shapes : Nat → Int32) (u_readAt : Nat → Int32) (u_meant : Nat → Int32) (u_readSo : Nat → Int32) (r : Int32 × Int32 × Int32 × Int32) : Option Value → mm_W → Prop := fun rv w => rv = none ∧ w = (W_X0_X5 r.1 r.2.1 r.2.2.1 r.2.2.2 q_windows q_shown q_soWithout u_wide u_high u_slackNow u_tenants u_letters u_readings u_kinds u_painOf u_payFor u_refused u_owned u_litIn u_shapes u_readAt u_meant u_readSo)
def X0_look_J63 (fu : Nat)  (q_sets : Int32) (q_size : Int32) (q_least : Int32) (q_greatest : Int32) (q_shown : Nat → Int64) (q_soWithout : Nat → Int32) (u_slackNow : Int32) (u_letters : Int32) (u_readings : Int32) (u_shapes : Nat → Int32) (u_readAt : Nat → Int32) (u_readSo : Nat → Int32)   : Option (Int32 × Int32 × Int32 × Int32) := some (q_sets + (1 : Int32), q_size, q_least, q_greatest)
set_option maxHeartbeats 4000000 in
set_option maxRecDepth 100000 in
theorem s_X0_look_J63 {fu : Nat} {q_sets : Int32} {q_size : Int32} {q_least : Int32} {q_greatest : Int32} {q_windows : Nat → Int32} {q_shown : Nat → Int64} {q_soWithout : Nat → Int32} {u_wide : Int32} {u_high : Int32} {u_slackNow : Int32} {u_tenants : Int32} {u_letters : Int32} {u_readings : Int32} {u_kinds : Nat → Int32} {u_painOf : Nat → Int32} {u_payFor : Nat → Int32} {u_refused : Nat → Int32} {u_owned : Nat → Int64} {u_litIn : Nat → Int64} {u_shapes : Nat → Int32} {u_readAt : Nat → Int32} {u_meant : Nat → Int32} {u_readSo : Nat → Int32} {r : Int32 × Int32 × Int32 × Int32} (h : X0_look_J63 fu q_sets q_size q_least q_greatest q_shown q_soWithout u_slackNow u_letters u_readings u_shapes u_readAt u_readSo = some r) : mm_Wp mX0_look (mm_R (P_X0_look q_windows q_shown q_soWithout u_wide u_high u_slackNow u_tenants u_letters u_readings u_kinds u_painOf u_payFor u_refused u_owned u_litIn u_shapes u_readAt u_meant u_readSo r)) 0 0 63 [(0, .ref 0)] [] (W_X0_X5 q_sets q_size q_least q_greatest q_windows q_shown q_soWithout u_wide u_high u_slackNow u_tenants u_letters u_readings u_kinds u_painOf u_payFor u_refused u_owned u_litIn u_shapes u_readAt u_meant u_readSo) := by
  rw [X0_look_J63] at h
  refine mm_aload_n 0 dX0_look_63 rfl rfl (pc' := 64) rfl ?_
  refine mm_dup dX0_look_64 rfl (pc' := 65) rfl ?_
  refine mm_getf fG_X0_9 dX0_look_65 rfl rfl (pc' := 68) rfl ?_
  refine mm_iconst dX0_look_68 ki_1 (pc' := 69) rfl ?_
  refine mm_iadd dX0_look_69 (pc' := 70) rfl ?_
  refine mm_putf fP_X0_9 dX0_look_70 rfl (Nat.le_of_ble_eq_true rfl) (fun _ => rfl) (fun _ => rfl) (ws' := (W_X0_X5 (q_sets + (1 : Int32)) q_size q_least q_greatest q_windows q_shown q_soWithout u_wide u_high u_slackNow u_tenants u_letters u_readings u_kinds u_painOf u_payFor u_refused u_owned u_litIn u_shapes u_readAt u_meant u_readSo)) rfl (pc' := 73) rfl ?_
  have h9 := Option.some.inj h
  subst h9
  exact mm_vret rfl dX0_look_73 ⟨rfl, rfl⟩
def X0_look_J26 (fu : Nat)  (q_sets : Int32) (q_size : Int32) (q_least : Int32) (q_greatest : Int32) (q_shown : Nat → Int64) (q_soWithout : Nat → Int32) (u_slackNow : Int32) (u_letters : Int32) (u_readings : Int32) (u_shapes : Nat → Int32) (u_readAt : Nat → Int32) (u_readSo : Nat → Int32) (v2 : Int32) (v3 : Int32) (v4 : Int32) (s0 : Int64) (s1 : Int64) : Option (Int32 × Int32 × Int32 × Int32) := (f_X0_tellsAll fu q_shown q_soWithout u_slackNow u_letters u_readings u_shapes u_readAt u_readSo (s1 ||| s0)).bind fun t33 => if t33 = 0 then (some (q_sets, q_size, q_least, q_greatest)) else (if q_sets = 0 then (X0_look_J63 fu q_sets v2 v3 v4 q_shown q_soWithout u_slackNow u_letters u_readings u_shapes u_readAt u_readSo) else (X0_look_J63 fu q_sets q_size q_least q_greatest q_shown q_soWithout u_slackNow u_letters u_readings u_shapes u_readAt u_readSo))
set_option maxHeartbeats 4000000 in
set_option maxRecDepth 100000 in
theorem s_X0_look_J26 {fu : Nat} {q_sets : Int32} {q_size : Int32} {q_least : Int32} {q_greatest : Int32} {q_windows : Nat → Int32} {q_shown : Nat → Int64} {q_soWithout : Nat → Int32} {u_wide : Int32} {u_high : Int32} {u_slackNow : Int32} {u_tenants : Int32} {u_letters : Int32} {u_readings : Int32} {u_kinds : Nat → Int32} {u_painOf : Nat → Int32} {u_payFor : Nat → Int32} {u_refused : Nat → Int32} {u_owned : Nat → Int64} {u_litIn : Nat → Int64} {u_shapes : Nat → Int32} {u_readAt : Nat → Int32} {u_meant : Nat → Int32} {u_readSo : Nat → Int32} {r : Int32 × Int32 × Int32 × Int32} {v2 : Int32} {v3 : Int32} {v4 : Int32} {s0 : Int64} {s1 : Int64} (h : X0_look_J26 fu q_sets q_size q_least q_greatest q_shown q_soWithout u_slackNow u_letters u_readings u_shapes u_readAt u_readSo v2 v3 v4 s0 s1 = some r) : mm_Wp mX0_look (mm_R (P_X0_look q_windows q_shown q_soWithout u_wide u_high u_slackNow u_tenants u_letters u_readings u_kinds u_painOf u_payFor u_refused u_owned u_litIn u_shapes u_readAt u_meant u_readSo r)) 0 0 26 [(0, .ref 0), (1, .ref 4), (2, .int v2), (3, .int v3), (4, .int v4)] [.long s0, .long s1] (W_X0_X5 q_sets q_size q_least q_greatest q_windows q_shown q_soWithout u_wide u_high u_slackNow u_tenants u_letters u_readings u_kinds u_painOf u_payFor u_refused u_owned u_litIn u_shapes u_readAt u_meant u_readSo) := by
  rw [X0_look_J26] at h
  refine mm_lor dX0_look_26 (pc' := 27) rfl ?_
  refine mm_lstore dX0_look_27 (by decide) (l' := [(5, .long (s1 ||| s0)), (0, .ref 0), (1, .ref 4), (2, .int v2), (3, .int v3), (4, .int v4)]) rfl (pc' := 29) rfl ?_
  refine mm_aload_n 1 dX0_look_29 rfl rfl (pc' := 30) rfl ?_
  refine mm_aload_n 2 dX0_look_30 rfl rfl (pc' := 31) rfl ?_
  refine mm_lload 0 dX0_look_31 rfl (pc' := 33) rfl ?_
  obtain ⟨t33, h33, h⟩ := mm_bd h
  refine mm_call0 (As := [.ref 4, .long (s1 ||| s0)]) (rest := []) cV_X0_77 (ok_X0_tellsAll h33) ⟨rfl, rfl, Nat.le_of_ble_eq_true rfl, Nat.le_of_ble_eq_true rfl⟩ dX0_look_33 rfl rfl rfl rfl (by rintro _ _ ⟨-, rfl⟩; rfl) (Nat.le_of_ble_eq_true rfl) ⟨Nat.le_of_ble_eq_true rfl, Nat.le_of_ble_eq_true rfl⟩ (pc' := 36) rfl ?_
  rintro rv w ⟨rfl, rfl⟩
  show mm_Wp _ _ _ _ 36 [(5, .long (s1 ||| s0)), (0, .ref 0), (1, .ref 4), (2, .int v2), (3, .int v3), (4, .int v4)] [.int t33] (W_X0_X5 q_sets q_size q_least q_greatest q_windows q_shown q_soWithout u_wide u_high u_slackNow u_tenants u_letters u_readings u_kinds u_painOf u_payFor u_refused u_owned u_litIn u_shapes u_readAt u_meant u_readSo)
  clear h33
  refine mm_if_ne (tgt := 40) dX0_look_36 (by decide) (pc' := 39) rfl (fun c => ?_) (fun c => ?_)
  · replace h := mm_if h c
    clear c
    refine mm_aload_n 1 dX0_look_40 rfl rfl (pc' := 41) rfl ?_
    refine mm_getf fG_X0_9 dX0_look_41 rfl rfl (pc' := 44) rfl ?_
    refine mm_if_ne (tgt := 63) dX0_look_44 (by decide) (pc' := 47) rfl (fun c => ?_) (fun c => ?_)
    · replace h := mm_if h c
      clear c
      exact mm_sub [1] rfl (s_X0_look_J63  h)
    · replace h := mm_it h c
      clear c
      refine mm_aload_n 1 dX0_look_47 rfl rfl (pc' := 48) rfl ?_
      refine mm_iload_n 3 dX0_look_48 rfl rfl (pc' := 49) rfl ?_
      refine mm_putf fP_X0_15 dX0_look_49 rfl (Nat.le_of_ble_eq_true rfl) (fun _ => rfl) (fun _ => rfl) (ws' := (W_X0_X5 q_sets v2 q_least q_greatest q_windows q_shown q_soWithout u_wide u_high u_slackNow u_tenants u_letters u_readings u_kinds u_painOf u_payFor u_refused u_owned u_litIn u_shapes u_readAt u_meant u_readSo)) rfl (pc' := 52) rfl ?_
      refine mm_aload_n 1 dX0_look_52 rfl rfl (pc' := 53) rfl ?_
      refine mm_iload_n 4 dX0_look_53 rfl rfl (pc' := 54) rfl ?_
      refine mm_putf fP_X0_18 dX0_look_54 rfl (Nat.le_of_ble_eq_true rfl) (fun _ => rfl) (fun _ => rfl) (ws' := (W_X0_X5 q_sets v2 v3 q_greatest q_windows q_shown q_soWithout u_wide u_high u_slackNow u_tenants u_letters u_readings u_kinds u_painOf u_payFor u_refused u_owned u_litIn u_shapes u_readAt u_meant u_readSo)) rfl (pc' := 57) rfl ?_
      refine mm_aload_n 1 dX0_look_57 rfl rfl (pc' := 58) rfl ?_
      refine mm_iload 5 dX0_look_58 rfl (pc' := 60) rfl ?_
      refine mm_putf fP_X0_21 dX0_look_60 rfl (Nat.le_of_ble_eq_true rfl) (fun _ => rfl) (fun _ => rfl) (ws' := (W_X0_X5 q_sets v2 v3 v4 q_windows q_shown q_soWithout u_wide u_high u_slackNow u_tenants u_letters u_readings u_kinds u_painOf u_payFor u_refused u_owned u_litIn u_shapes u_readAt u_meant u_readSo)) rfl (pc' := 63) rfl ?_
      exact mm_sub [1] rfl (s_X0_look_J63  h)
  · replace h := mm_it h c
    clear c
    have h9 := Option.some.inj h
    subst h9
    exact mm_vret rfl dX0_look_39 ⟨rfl, rfl⟩
def X0_look_J12 (fu : Nat)  (q_sets : Int32) (q_size : Int32) (q_least : Int32) (q_greatest : Int32) (q_shown : Nat → Int64) (q_soWithout : Nat → Int32) (u_slackNow : Int32) (u_letters : Int32) (u_readings : Int32) (u_shapes : Nat → Int32) (u_readAt : Nat → Int32) (u_readSo : Nat → Int32) (v2 : Int32) (v3 : Int32) (v4 : Int32) (s0 : Int64) : Option (Int32 × Int32 × Int32 × Int32) := if v4 = (-1 : Int32) then (X0_look_J26 fu q_sets q_size q_least q_greatest q_shown q_soWithout u_slackNow u_letters u_readings u_shapes u_readAt u_readSo v2 v3 v4 (0 : Int64) s0) else (X0_look_J26 fu q_sets q_size q_least q_greatest q_shown q_soWithout u_slackNow u_letters u_readings u_shapes u_readAt u_readSo v2 v3 v4 ((1 : Int64) <<< (v4.toInt64 &&& 63)) s0)
set_option maxHeartbeats 4000000 in
set_option maxRecDepth 100000 in
theorem s_X0_look_J12 {fu : Nat} {q_sets : Int32} {q_size : Int32} {q_least : Int32} {q_greatest : Int32} {q_windows : Nat → Int32} {q_shown : Nat → Int64} {q_soWithout : Nat → Int32} {u_wide : Int32} {u_high : Int32} {u_slackNow : Int32} {u_tenants : Int32} {u_letters : Int32} {u_readings : Int32} {u_kinds : Nat → Int32} {u_painOf : Nat → Int32} {u_payFor : Nat → Int32} {u_refused : Nat → Int32} {u_owned : Nat → Int64} {u_litIn : Nat → Int64} {u_shapes : Nat → Int32} {u_readAt : Nat → Int32} {u_meant : Nat → Int32} {u_readSo : Nat → Int32} {r : Int32 × Int32 × Int32 × Int32} {v2 : Int32} {v3 : Int32} {v4 : Int32} {s0 : Int64} (h : X0_look_J12 fu q_sets q_size q_least q_greatest q_shown q_soWithout u_slackNow u_letters u_readings u_shapes u_readAt u_readSo v2 v3 v4 s0 = some r) : mm_Wp mX0_look (mm_R (P_X0_look q_windows q_shown q_soWithout u_wide u_high u_slackNow u_tenants u_letters u_readings u_kinds u_painOf u_payFor u_refused u_owned u_litIn u_shapes u_readAt u_meant u_readSo r)) 0 0 12 [(0, .ref 0), (1, .ref 4), (2, .int v2), (3, .int v3), (4, .int v4)] [.long s0] (W_X0_X5 q_sets q_size q_least q_greatest q_windows q_shown q_soWithout u_wide u_high u_slackNow u_tenants u_letters u_readings u_kinds u_painOf u_payFor u_refused u_owned u_litIn u_shapes u_readAt u_meant u_readSo) := by
  rw [X0_look_J12] at h
  refine mm_iload 4 dX0_look_12 rfl (pc' := 14) rfl ?_
  refine mm_iconst dX0_look_14 ki_m1 (pc' := 15) rfl ?_
  refine mm_icmp_ne (tgt := 22) dX0_look_15 (by decide) (pc' := 18) rfl (fun c => ?_) (fun c => ?_)
  · replace h := mm_if h c
    clear c
    refine mm_lconst dX0_look_22 (by decide : _ = (1 : Int64)) (pc' := 23) rfl ?_
    refine mm_iload 4 dX0_look_23 rfl (pc' := 25) rfl ?_
    refine mm_lshl dX0_look_25 (pc' := 26) rfl ?_
    exact s_X0_look_J26  h
  · replace h := mm_it h c
    clear c
    refine mm_lconst dX0_look_18 (by decide : _ = (0 : Int64)) (pc' := 19) rfl ?_
    refine mm_goto (tgt := 26) dX0_look_19 (by decide) ?_
    exact s_X0_look_J26  h
def f_X0_look (fu : Nat) (q_sets : Int32) (q_size : Int32) (q_least : Int32) (q_greatest : Int32) (q_shown : Nat → Int64) (q_soWithout : Nat → Int32) (u_slackNow : Int32) (u_letters : Int32) (u_readings : Int32) (u_shapes : Nat → Int32) (u_readAt : Nat → Int32) (u_readSo : Nat → Int32) (v2 : Int32) (v3 : Int32) (v4 : Int32) : Option (Int32 × Int32 × Int32 × Int32) := if v3 = (-1 : Int32) then (X0_look_J12 fu q_sets q_size q_least q_greatest q_shown q_soWithout u_slackNow u_letters u_readings u_shapes u_readAt u_readSo v2 v3 v4 (0 : Int64)) else (X0_look_J12 fu q_sets q_size q_least q_greatest q_shown q_soWithout u_slackNow u_letters u_readings u_shapes u_readAt u_readSo v2 v3 v4 ((1 : Int64) <<< (v3.toInt64 &&& 63)))
set_option maxHeartbeats 4000000 in
set_option maxRecDepth 100000 in
theorem ok_X0_look {fu : Nat} {q_sets : Int32} {q_size : Int32} {q_least : Int32} {q_greatest : Int32} {q_windows : Nat → Int32} {q_shown : Nat → Int64} {q_soWithout : Nat → Int32} {u_wide : Int32} {u_high : Int32} {u_slackNow : Int32} {u_tenants : Int32} {u_letters : Int32} {u_readings : Int32} {u_kinds : Nat → Int32} {u_painOf : Nat → Int32} {u_payFor : Nat → Int32} {u_refused : Nat → Int32} {u_owned : Nat → Int64} {u_litIn : Nat → Int64} {u_shapes : Nat → Int32} {u_readAt : Nat → Int32} {u_meant : Nat → Int32} {u_readSo : Nat → Int32} {r : Int32 × Int32 × Int32 × Int32} {v2 : Int32} {v3 : Int32} {v4 : Int32} (h : f_X0_look fu q_sets q_size q_least q_greatest q_shown q_soWithout u_slackNow u_letters u_readings u_shapes u_readAt u_readSo v2 v3 v4 = some r) : mm_Ok mX0_look [.ref 0, .ref 4, .int v2, .int v3, .int v4] (W_X0_X5 q_sets q_size q_least q_greatest q_windows q_shown q_soWithout u_wide u_high u_slackNow u_tenants u_letters u_readings u_kinds u_painOf u_payFor u_refused u_owned u_litIn u_shapes u_readAt u_meant u_readSo) (P_X0_look q_windows q_shown q_soWithout u_wide u_high u_slackNow u_tenants u_letters u_readings u_kinds u_painOf u_payFor u_refused u_owned u_litIn u_shapes u_readAt u_meant u_readSo r) := by
  rw [f_X0_look] at h
  refine mm_Ok.of pn_X0 (l := [(0, .ref 0), (1, .ref 4), (2, .int v2), (3, .int v3), (4, .int v4)]) rfl (Nat.le_of_ble_eq_true rfl) ?_
  refine mm_iload_n 3 dX0_look_0 rfl rfl (pc' := 1) rfl ?_
  refine mm_iconst dX0_look_1 ki_m1 (pc' := 2) rfl ?_
  refine mm_icmp_ne (tgt := 9) dX0_look_2 (by decide) (pc' := 5) rfl (fun c => ?_) (fun c => ?_)
  · replace h := mm_if h c
    clear c
    refine mm_lconst dX0_look_9 (by decide : _ = (1 : Int64)) (pc' := 10) rfl ?_
    refine mm_iload_n 3 dX0_look_10 rfl rfl (pc' := 11) rfl ?_
    refine mm_lshl dX0_look_11 (pc' := 12) rfl ?_
    exact s_X0_look_J12  h
  · replace h := mm_it h c
    clear c
    refine mm_lconst dX0_look_5 (by decide : _ = (0 : Int64)) (pc' := 6) rfl ?_
    refine mm_goto (tgt := 12) dX0_look_6 (by decide) ?_
    exact s_X0_look_J12  h

def P_X0_find (u_wide : Int32) (u_high : Int32) (u_slackNow : Int32) (u_tenants : Int32) (u_letters : Int32) (u_readings : Int32) (u_kinds : Nat → Int32) (u_painOf : Nat → Int32) (u_payFor : Nat → Int32) (u_refused : Nat → Int32) (u_owned : Nat → Int64) (u_litIn : Nat → Int64) (u_shapes : Nat → Int32) (u_readAt : Nat → Int32) (u_meant : Nat → Int32) (u_readSo : Nat → Int32) (r : Int32 × Int32 × Int32 × Int32 × (Nat → Int32) × (Nat → Int64) × (Nat → Int32)) : Option Value → mm_W → Prop := fun rv w => rv = none ∧ w = (W_X0_X5 r.1 r.2.1 r.2.2.1 r.2.2.2.1 r.2.2.2.2.1 r.2.2.2.2.2.1 r.2.2.2.2.2.2 u_wide u_high u_slackNow u_tenants u_letters u_readings u_kinds u_painOf u_payFor u_refused u_owned u_litIn u_shapes u_readAt u_meant u_readSo)
def X0_find_L67 (fu : Nat) (rec57 : Int32 → Int32 → Int32 → Int32 → Int32 → Option (Int32 × Int32 × Int32 × Int32 × (Nat → Int32) × (Nat → Int64) × (Nat → Int32))) (q_windows : Nat → Int32) (q_shown : Nat → Int64) (q_soWithout : Nat → Int32) (u_wide : Int32) (u_high : Int32) (u_slackNow : Int32) (u_letters : Int32) (u_readings : Int32) (u_shapes : Nat → Int32) (u_readAt : Nat → Int32) (u_meant : Nat → Int32) (u_readSo : Nat → Int32) (v2 : Int32) (v3 : Int32) : Nat → Int32 → Int32 → Int32 → Int32 → Int32 → Option (Int32 × Int32 × Int32 × Int32 × (Nat → Int32) × (Nat → Int64) × (Nat → Int32))
  | 0, _, _, _, _, _ => none
  | n + 1, q_sets, q_size, q_least, q_greatest, v4 => if v2 ≤ v4 then (rec57 q_sets q_size q_least q_greatest (v3 + (1 : Int32))) else (mm_rd q_windows 60 v3 fun x81 => mm_rd q_windows 60 v4 fun x88 => (f_X0_look fu q_sets q_size q_least q_greatest q_shown q_soWithout u_slackNow u_letters u_readings u_shapes u_readAt u_readSo (2 : Int32) x81 x88).bind fun t89 => (X0_find_L67 fu rec57 q_windows q_shown q_soWithout u_wide u_high u_slackNow u_letters u_readings u_shapes u_readAt u_meant u_readSo v2 v3 n) t89.1 t89.2.1 t89.2.2.1 t89.2.2.2 (v4 + (1 : Int32)))
set_option maxHeartbeats 4000000 in
set_option maxRecDepth 100000 in
theorem s_X0_find_L67 {fu : Nat} {q_windows : Nat → Int32} {q_shown : Nat → Int64} {q_soWithout : Nat → Int32} {u_wide : Int32} {u_high : Int32} {u_slackNow : Int32} {u_tenants : Int32} {u_letters : Int32} {u_readings : Int32} {u_kinds : Nat → Int32} {u_painOf : Nat → Int32} {u_payFor : Nat → Int32} {u_refused : Nat → Int32} {u_owned : Nat → Int64} {u_litIn : Nat → Int64} {u_shapes : Nat → Int32} {u_readAt : Nat → Int32} {u_meant : Nat → Int32} {u_readSo : Nat → Int32} {r : Int32 × Int32 × Int32 × Int32 × (Nat → Int32) × (Nat → Int64) × (Nat → Int32)} {rec57 : Int32 → Int32 → Int32 → Int32 → Int32 → Option (Int32 × Int32 × Int32 × Int32 × (Nat → Int32) × (Nat → Int64) × (Nat → Int32))} {v2 : Int32} {v3 : Int32} (hr57 : ∀ (z_q_sets : Int32) (z_q_size : Int32) (z_q_least : Int32) (z_q_greatest : Int32) (y3 : Int32), rec57 z_q_sets z_q_size z_q_least z_q_greatest y3 = some r → mm_Wp mX0_find (mm_R (P_X0_find u_wide u_high u_slackNow u_tenants u_letters u_readings u_kinds u_painOf u_payFor u_refused u_owned u_litIn u_shapes u_readAt u_meant u_readSo r)) 0 0 57 [(0, .ref 0), (1, .ref 4), (2, .int v2), (3, .int y3)] [] (W_X0_X5 z_q_sets z_q_size z_q_least z_q_greatest q_windows q_shown q_soWithout u_wide u_high u_slackNow u_tenants u_letters u_readings u_kinds u_painOf u_payFor u_refused u_owned u_litIn u_shapes u_readAt u_meant u_readSo)) : ∀ (n : Nat) (q_sets : Int32) (q_size : Int32) (q_least : Int32) (q_greatest : Int32) (v4 : Int32), X0_find_L67 fu rec57 q_windows q_shown q_soWithout u_wide u_high u_slackNow u_letters u_readings u_shapes u_readAt u_meant u_readSo v2 v3 n q_sets q_size q_least q_greatest v4 = some r → mm_Wp mX0_find (mm_R (P_X0_find u_wide u_high u_slackNow u_tenants u_letters u_readings u_kinds u_painOf u_payFor u_refused u_owned u_litIn u_shapes u_readAt u_meant u_readSo r)) 0 0 67 [(0, .ref 0), (1, .ref 4), (2, .int v2), (3, .int v3), (4, .int v4)] [] (W_X0_X5 q_sets q_size q_least q_greatest q_windows q_shown q_soWithout u_wide u_high u_slackNow u_tenants u_letters u_readings u_kinds u_painOf u_payFor u_refused u_owned u_litIn u_shapes u_readAt u_meant u_readSo) := by
  intro n
  induction n with
  | zero =>
    intro q_sets q_size q_least q_greatest v4 h
    rw [X0_find_L67] at h
    cases h
  | succ n hr67 =>
    intro q_sets q_size q_least q_greatest v4 h
    rw [X0_find_L67] at h
    refine mm_iload 4 dX0_find_67 rfl (pc' := 69) rfl ?_
    refine mm_iload_n 2 dX0_find_69 rfl rfl (pc' := 70) rfl ?_
    refine mm_icmp_ge (tgt := 98) dX0_find_70 (by decide) (pc' := 73) rfl (fun c => ?_) (fun c => ?_)
    · replace h := mm_it h c
      clear c
      refine mm_iinc 3 dX0_find_98 rfl ki_1 (by decide) (l' := [(3, .int (v3 + (1 : Int32))), (0, .ref 0), (1, .ref 4), (2, .int v2), (4, .int v4)]) rfl (pc' := 101) rfl ?_
      refine mm_goto (tgt := 57) dX0_find_101 (by decide) ?_
      exact mm_sub [1, 2, 3, 0] rfl (hr57 _ _ _ _ _ h)
    · replace h := mm_if h c
      clear c
      refine mm_aload_n 0 dX0_find_73 rfl rfl (pc' := 74) rfl ?_
      refine mm_aload_n 1 dX0_find_74 rfl rfl (pc' := 75) rfl ?_
      refine mm_iconst dX0_find_75 ki_2 (pc' := 76) rfl ?_
      refine mm_aload_n 0 dX0_find_76 rfl rfl (pc' := 77) rfl ?_
      refine mm_getf fG_X0_24 dX0_find_77 rfl rfl (pc' := 80) rfl ?_
      refine mm_iload_n 3 dX0_find_80 rfl rfl (pc' := 81) rfl ?_
      obtain ⟨x81, c81, e81, h⟩ := mm_rd_of h
      refine mm_iald dX0_find_81 rfl c81 e81 (pc' := 82) rfl ?_
      clear c81 e81
      refine mm_aload_n 0 dX0_find_82 rfl rfl (pc' := 83) rfl ?_
      refine mm_getf fG_X0_24 dX0_find_83 rfl rfl (pc' := 86) rfl ?_
      refine mm_iload 4 dX0_find_86 rfl (pc' := 88) rfl ?_
      obtain ⟨x88, c88, e88, h⟩ := mm_rd_of h
      refine mm_iald dX0_find_88 rfl c88 e88 (pc' := 89) rfl ?_
      clear c88 e88
      obtain ⟨t89, h89, h⟩ := mm_bd h
      refine mm_call0 (As := [.ref 4, .int (2 : Int32), .int x81, .int x88]) (rest := []) cV_X0_44 (ok_X0_look h89) ⟨rfl, rfl, Nat.le_of_ble_eq_true rfl, Nat.le_of_ble_eq_true rfl⟩ dX0_find_89 rfl rfl rfl rfl (by rintro _ _ ⟨-, rfl⟩; rfl) (Nat.le_of_ble_eq_true rfl) ⟨Nat.le_of_ble_eq_true rfl, Nat.le_of_ble_eq_true rfl⟩ (pc' := 92) rfl ?_
      rintro rv w ⟨rfl, rfl⟩
      show mm_Wp _ _ _ _ 92 [(0, .ref 0), (1, .ref 4), (2, .int v2), (3, .int v3), (4, .int v4)] [] (W_X0_X5 t89.1 t89.2.1 t89.2.2.1 t89.2.2.2 q_windows q_shown q_soWithout u_wide u_high u_slackNow u_tenants u_letters u_readings u_kinds u_painOf u_payFor u_refused u_owned u_litIn u_shapes u_readAt u_meant u_readSo)
      clear h89
      refine mm_iinc 4 dX0_find_92 rfl ki_1 (by decide) (l' := [(4, .int (v4 + (1 : Int32))), (0, .ref 0), (1, .ref 4), (2, .int v2), (3, .int v3)]) rfl (pc' := 95) rfl ?_
      refine mm_goto (tgt := 67) dX0_find_95 (by decide) ?_
      exact mm_sub [1, 2, 3, 4, 0] rfl (hr67 _ _ _ _ _ h)
def X0_find_L57 (fu : Nat)  (q_windows : Nat → Int32) (q_shown : Nat → Int64) (q_soWithout : Nat → Int32) (u_wide : Int32) (u_high : Int32) (u_slackNow : Int32) (u_letters : Int32) (u_readings : Int32) (u_shapes : Nat → Int32) (u_readAt : Nat → Int32) (u_meant : Nat → Int32) (u_readSo : Nat → Int32) (v2 : Int32) : Nat → Int32 → Int32 → Int32 → Int32 → Int32 → Option (Int32 × Int32 × Int32 × Int32 × (Nat → Int32) × (Nat → Int64) × (Nat → Int32))
  | 0, _, _, _, _, _ => none
  | n + 1, q_sets, q_size, q_least, q_greatest, v3 => if v2 ≤ v3 then (some (q_sets, q_size, q_least, q_greatest, q_windows, q_shown, q_soWithout)) else (X0_find_L67 fu (X0_find_L57 fu q_windows q_shown q_soWithout u_wide u_high u_slackNow u_letters u_readings u_shapes u_readAt u_meant u_readSo v2 n) q_windows q_shown q_soWithout u_wide u_high u_slackNow u_letters u_readings u_shapes u_readAt u_meant u_readSo v2 v3 fu q_sets q_size q_least q_greatest (v3 + (1 : Int32)))
set_option maxHeartbeats 4000000 in
set_option maxRecDepth 100000 in
theorem s_X0_find_L57 {fu : Nat} {q_windows : Nat → Int32} {q_shown : Nat → Int64} {q_soWithout : Nat → Int32} {u_wide : Int32} {u_high : Int32} {u_slackNow : Int32} {u_tenants : Int32} {u_letters : Int32} {u_readings : Int32} {u_kinds : Nat → Int32} {u_painOf : Nat → Int32} {u_payFor : Nat → Int32} {u_refused : Nat → Int32} {u_owned : Nat → Int64} {u_litIn : Nat → Int64} {u_shapes : Nat → Int32} {u_readAt : Nat → Int32} {u_meant : Nat → Int32} {u_readSo : Nat → Int32} {r : Int32 × Int32 × Int32 × Int32 × (Nat → Int32) × (Nat → Int64) × (Nat → Int32)} {v2 : Int32} : ∀ (n : Nat) (q_sets : Int32) (q_size : Int32) (q_least : Int32) (q_greatest : Int32) (v3 : Int32), X0_find_L57 fu q_windows q_shown q_soWithout u_wide u_high u_slackNow u_letters u_readings u_shapes u_readAt u_meant u_readSo v2 n q_sets q_size q_least q_greatest v3 = some r → mm_Wp mX0_find (mm_R (P_X0_find u_wide u_high u_slackNow u_tenants u_letters u_readings u_kinds u_painOf u_payFor u_refused u_owned u_litIn u_shapes u_readAt u_meant u_readSo r)) 0 0 57 [(0, .ref 0), (1, .ref 4), (2, .int v2), (3, .int v3)] [] (W_X0_X5 q_sets q_size q_least q_greatest q_windows q_shown q_soWithout u_wide u_high u_slackNow u_tenants u_letters u_readings u_kinds u_painOf u_payFor u_refused u_owned u_litIn u_shapes u_readAt u_meant u_readSo) := by
  intro n
  induction n with
  | zero =>
    intro q_sets q_size q_least q_greatest v3 h
    rw [X0_find_L57] at h
    cases h
  | succ n hr57 =>
    intro q_sets q_size q_least q_greatest v3 h
    rw [X0_find_L57] at h
    refine mm_iload_n 3 dX0_find_57 rfl rfl (pc' := 58) rfl ?_
    refine mm_iload_n 2 dX0_find_58 rfl rfl (pc' := 59) rfl ?_
    refine mm_icmp_ge (tgt := 104) dX0_find_59 (by decide) (pc' := 62) rfl (fun c => ?_) (fun c => ?_)
    · replace h := mm_it h c
      clear c
      have h9 := Option.some.inj h
      subst h9
      exact mm_vret rfl dX0_find_104 ⟨rfl, rfl⟩
    · replace h := mm_if h c
      clear c
      refine mm_iload_n 3 dX0_find_62 rfl rfl (pc' := 63) rfl ?_
      refine mm_iconst dX0_find_63 ki_1 (pc' := 64) rfl ?_
      refine mm_iadd dX0_find_64 (pc' := 65) rfl ?_
      refine mm_istore dX0_find_65 (by decide) (l' := [(4, .int (v3 + (1 : Int32))), (0, .ref 0), (1, .ref 4), (2, .int v2), (3, .int v3)]) rfl (pc' := 67) rfl ?_
      exact mm_sub [1, 2, 3, 4, 0] rfl (s_X0_find_L67 (hr57 := hr57) _ _ _ _ _ _ h)
def X0_find_L26 (fu : Nat)  (q_windows : Nat → Int32) (q_shown : Nat → Int64) (q_soWithout : Nat → Int32) (u_wide : Int32) (u_high : Int32) (u_slackNow : Int32) (u_letters : Int32) (u_readings : Int32) (u_shapes : Nat → Int32) (u_readAt : Nat → Int32) (u_meant : Nat → Int32) (u_readSo : Nat → Int32) (v2 : Int32) : Nat → Int32 → Int32 → Int32 → Int32 → Int32 → Option (Int32 × Int32 × Int32 × Int32 × (Nat → Int32) × (Nat → Int64) × (Nat → Int32))
  | 0, _, _, _, _, _ => none
  | n + 1, q_sets, q_size, q_least, q_greatest, v3 => if v2 ≤ v3 then (X0_find_L57 fu q_windows q_shown q_soWithout u_wide u_high u_slackNow u_letters u_readings u_shapes u_readAt u_meant u_readSo v2 fu q_sets q_size q_least q_greatest (0 : Int32)) else (mm_rd q_windows 60 v3 fun x39 => mm_rd q_windows 60 v3 fun x45 => (f_X0_look fu q_sets q_size q_least q_greatest q_shown q_soWithout u_slackNow u_letters u_readings u_shapes u_readAt u_readSo (1 : Int32) x39 x45).bind fun t46 => (X0_find_L26 fu q_windows q_shown q_soWithout u_wide u_high u_slackNow u_letters u_readings u_shapes u_readAt u_meant u_readSo v2 n) t46.1 t46.2.1 t46.2.2.1 t46.2.2.2 (v3 + (1 : Int32)))
set_option maxHeartbeats 4000000 in
set_option maxRecDepth 100000 in
theorem s_X0_find_L26 {fu : Nat} {q_windows : Nat → Int32} {q_shown : Nat → Int64} {q_soWithout : Nat → Int32} {u_wide : Int32} {u_high : Int32} {u_slackNow : Int32} {u_tenants : Int32} {u_letters : Int32} {u_readings : Int32} {u_kinds : Nat → Int32} {u_painOf : Nat → Int32} {u_payFor : Nat → Int32} {u_refused : Nat → Int32} {u_owned : Nat → Int64} {u_litIn : Nat → Int64} {u_shapes : Nat → Int32} {u_readAt : Nat → Int32} {u_meant : Nat → Int32} {u_readSo : Nat → Int32} {r : Int32 × Int32 × Int32 × Int32 × (Nat → Int32) × (Nat → Int64) × (Nat → Int32)} {v2 : Int32} : ∀ (n : Nat) (q_sets : Int32) (q_size : Int32) (q_least : Int32) (q_greatest : Int32) (v3 : Int32), X0_find_L26 fu q_windows q_shown q_soWithout u_wide u_high u_slackNow u_letters u_readings u_shapes u_readAt u_meant u_readSo v2 n q_sets q_size q_least q_greatest v3 = some r → mm_Wp mX0_find (mm_R (P_X0_find u_wide u_high u_slackNow u_tenants u_letters u_readings u_kinds u_painOf u_payFor u_refused u_owned u_litIn u_shapes u_readAt u_meant u_readSo r)) 0 0 26 [(0, .ref 0), (1, .ref 4), (2, .int v2), (3, .int v3)] [] (W_X0_X5 q_sets q_size q_least q_greatest q_windows q_shown q_soWithout u_wide u_high u_slackNow u_tenants u_letters u_readings u_kinds u_painOf u_payFor u_refused u_owned u_litIn u_shapes u_readAt u_meant u_readSo) := by
  intro n
  induction n with
  | zero =>
    intro q_sets q_size q_least q_greatest v3 h
    rw [X0_find_L26] at h
    cases h
  | succ n hr26 =>
    intro q_sets q_size q_least q_greatest v3 h
    rw [X0_find_L26] at h
    refine mm_iload_n 3 dX0_find_26 rfl rfl (pc' := 27) rfl ?_
    refine mm_iload_n 2 dX0_find_27 rfl rfl (pc' := 28) rfl ?_
    refine mm_icmp_ge (tgt := 55) dX0_find_28 (by decide) (pc' := 31) rfl (fun c => ?_) (fun c => ?_)
    · replace h := mm_it h c
      clear c
      refine mm_iconst dX0_find_55 ki_0 (pc' := 56) rfl ?_
      refine mm_istore_n dX0_find_56 rfl (by decide) (l' := [(3, .int (0 : Int32)), (0, .ref 0), (1, .ref 4), (2, .int v2)]) rfl (pc' := 57) rfl ?_
      exact mm_sub [1, 2, 3, 0] rfl (s_X0_find_L57  _ _ _ _ _ _ h)
    · replace h := mm_if h c
      clear c
      refine mm_aload_n 0 dX0_find_31 rfl rfl (pc' := 32) rfl ?_
      refine mm_aload_n 1 dX0_find_32 rfl rfl (pc' := 33) rfl ?_
      refine mm_iconst dX0_find_33 ki_1 (pc' := 34) rfl ?_
      refine mm_aload_n 0 dX0_find_34 rfl rfl (pc' := 35) rfl ?_
      refine mm_getf fG_X0_24 dX0_find_35 rfl rfl (pc' := 38) rfl ?_
      refine mm_iload_n 3 dX0_find_38 rfl rfl (pc' := 39) rfl ?_
      obtain ⟨x39, c39, e39, h⟩ := mm_rd_of h
      refine mm_iald dX0_find_39 rfl c39 e39 (pc' := 40) rfl ?_
      clear c39 e39
      refine mm_aload_n 0 dX0_find_40 rfl rfl (pc' := 41) rfl ?_
      refine mm_getf fG_X0_24 dX0_find_41 rfl rfl (pc' := 44) rfl ?_
      refine mm_iload_n 3 dX0_find_44 rfl rfl (pc' := 45) rfl ?_
      obtain ⟨x45, c45, e45, h⟩ := mm_rd_of h
      refine mm_iald dX0_find_45 rfl c45 e45 (pc' := 46) rfl ?_
      clear c45 e45
      obtain ⟨t46, h46, h⟩ := mm_bd h
      refine mm_call0 (As := [.ref 4, .int (1 : Int32), .int x39, .int x45]) (rest := []) cV_X0_44 (ok_X0_look h46) ⟨rfl, rfl, Nat.le_of_ble_eq_true rfl, Nat.le_of_ble_eq_true rfl⟩ dX0_find_46 rfl rfl rfl rfl (by rintro _ _ ⟨-, rfl⟩; rfl) (Nat.le_of_ble_eq_true rfl) ⟨Nat.le_of_ble_eq_true rfl, Nat.le_of_ble_eq_true rfl⟩ (pc' := 49) rfl ?_
      rintro rv w ⟨rfl, rfl⟩
      show mm_Wp _ _ _ _ 49 [(0, .ref 0), (1, .ref 4), (2, .int v2), (3, .int v3)] [] (W_X0_X5 t46.1 t46.2.1 t46.2.2.1 t46.2.2.2 q_windows q_shown q_soWithout u_wide u_high u_slackNow u_tenants u_letters u_readings u_kinds u_painOf u_payFor u_refused u_owned u_litIn u_shapes u_readAt u_meant u_readSo)
      clear h46
      refine mm_iinc 3 dX0_find_49 rfl ki_1 (by decide) (l' := [(3, .int (v3 + (1 : Int32))), (0, .ref 0), (1, .ref 4), (2, .int v2)]) rfl (pc' := 52) rfl ?_
      refine mm_goto (tgt := 26) dX0_find_52 (by decide) ?_
      exact mm_sub [1, 2, 3, 0] rfl (hr26 _ _ _ _ _ h)
def f_X0_find (fu : Nat) (q_sets : Int32) (q_size : Int32) (q_least : Int32) (q_greatest : Int32) (q_windows : Nat → Int32) (q_shown : Nat → Int64) (q_soWithout : Nat → Int32) (u_wide : Int32) (u_high : Int32) (u_slackNow : Int32) (u_letters : Int32) (u_readings : Int32) (u_shapes : Nat → Int32) (u_readAt : Nat → Int32) (u_meant : Nat → Int32) (u_readSo : Nat → Int32) : Option (Int32 × Int32 × Int32 × Int32 × (Nat → Int32) × (Nat → Int64) × (Nat → Int32)) := (f_X0_tellWindows fu q_windows u_wide u_high).bind fun t2 => (f_X0_tellReadings fu q_shown q_soWithout u_slackNow u_letters u_readings u_shapes u_readAt u_meant u_readSo).bind fun t8 => (f_X0_look fu (0 : Int32) q_size q_least q_greatest t8.1 t8.2 u_slackNow u_letters u_readings u_shapes u_readAt u_readSo (0 : Int32) (-1 : Int32) (-1 : Int32)).bind fun t21 => X0_find_L26 fu t2.2 t8.1 t8.2 u_wide u_high u_slackNow u_letters u_readings u_shapes u_readAt u_meant u_readSo t2.1 fu t21.1 t21.2.1 t21.2.2.1 t21.2.2.2 (0 : Int32)
set_option maxHeartbeats 4000000 in
set_option maxRecDepth 100000 in
theorem ok_X0_find {fu : Nat} {q_sets : Int32} {q_size : Int32} {q_least : Int32} {q_greatest : Int32} {q_windows : Nat → Int32} {q_shown : Nat → Int64} {q_soWithout : Nat → Int32} {u_wide : Int32} {u_high : Int32} {u_slackNow : Int32} {u_tenants : Int32} {u_letters : Int32} {u_readings : Int32} {u_kinds : Nat → Int32} {u_painOf : Nat → Int32} {u_payFor : Nat → Int32} {u_refused : Nat → Int32} {u_owned : Nat → Int64} {u_litIn : Nat → Int64} {u_shapes : Nat → Int32} {u_readAt : Nat → Int32} {u_meant : Nat → Int32} {u_readSo : Nat → Int32} {r : Int32 × Int32 × Int32 × Int32 × (Nat → Int32) × (Nat → Int64) × (Nat → Int32)} (h : f_X0_find fu q_sets q_size q_least q_greatest q_windows q_shown q_soWithout u_wide u_high u_slackNow u_letters u_readings u_shapes u_readAt u_meant u_readSo = some r) : mm_Ok mX0_find [.ref 0, .ref 4] (W_X0_X5 q_sets q_size q_least q_greatest q_windows q_shown q_soWithout u_wide u_high u_slackNow u_tenants u_letters u_readings u_kinds u_painOf u_payFor u_refused u_owned u_litIn u_shapes u_readAt u_meant u_readSo) (P_X0_find u_wide u_high u_slackNow u_tenants u_letters u_readings u_kinds u_painOf u_payFor u_refused u_owned u_litIn u_shapes u_readAt u_meant u_readSo r) := by
  rw [f_X0_find] at h
  refine mm_Ok.of pn_X0 (l := [(0, .ref 0), (1, .ref 4)]) rfl (Nat.le_of_ble_eq_true rfl) ?_
  refine mm_aload_n 0 dX0_find_0 rfl rfl (pc' := 1) rfl ?_
  refine mm_aload_n 1 dX0_find_1 rfl rfl (pc' := 2) rfl ?_
  obtain ⟨t2, h2, h⟩ := mm_bd h
  refine mm_call0 (As := [.ref 4]) (rest := []) cV_X0_36 (ok_X0_tellWindows h2) ⟨rfl, rfl, Nat.le_of_ble_eq_true rfl, Nat.le_of_ble_eq_true rfl⟩ dX0_find_2 rfl rfl rfl rfl (by rintro _ _ ⟨-, rfl⟩; rfl) (Nat.le_of_ble_eq_true rfl) ⟨Nat.le_of_ble_eq_true rfl, Nat.le_of_ble_eq_true rfl⟩ (pc' := 5) rfl ?_
  rintro rv w ⟨rfl, rfl⟩
  show mm_Wp _ _ _ _ 5 [(0, .ref 0), (1, .ref 4)] [.int t2.1] (W_X0_X5 q_sets q_size q_least q_greatest t2.2 q_shown q_soWithout u_wide u_high u_slackNow u_tenants u_letters u_readings u_kinds u_painOf u_payFor u_refused u_owned u_litIn u_shapes u_readAt u_meant u_readSo)
  clear h2
  refine mm_istore_n dX0_find_5 rfl (by decide) (l' := [(2, .int t2.1), (0, .ref 0), (1, .ref 4)]) rfl (pc' := 6) rfl ?_
  refine mm_aload_n 1 dX0_find_6 rfl rfl (pc' := 7) rfl ?_
  refine mm_aload_n 2 dX0_find_7 rfl rfl (pc' := 8) rfl ?_
  obtain ⟨t8, h8, h⟩ := mm_bd h
  refine mm_call0 (As := [.ref 4]) (rest := []) cV_X0_40 (ok_X0_tellReadings h8) ⟨rfl, rfl, Nat.le_of_ble_eq_true rfl, Nat.le_of_ble_eq_true rfl⟩ dX0_find_8 rfl rfl rfl rfl (by rintro _ _ ⟨-, rfl⟩; rfl) (Nat.le_of_ble_eq_true rfl) ⟨Nat.le_of_ble_eq_true rfl, Nat.le_of_ble_eq_true rfl⟩ (pc' := 11) rfl ?_
  rintro rv w ⟨rfl, rfl⟩
  show mm_Wp _ _ _ _ 11 [(2, .int t2.1), (0, .ref 0), (1, .ref 4)] [] (W_X0_X5 q_sets q_size q_least q_greatest t2.2 t8.1 t8.2 u_wide u_high u_slackNow u_tenants u_letters u_readings u_kinds u_painOf u_payFor u_refused u_owned u_litIn u_shapes u_readAt u_meant u_readSo)
  clear h8
  refine mm_aload_n 1 dX0_find_11 rfl rfl (pc' := 12) rfl ?_
  refine mm_iconst dX0_find_12 ki_0 (pc' := 13) rfl ?_
  refine mm_putf fP_X0_9 dX0_find_13 rfl (Nat.le_of_ble_eq_true rfl) (fun _ => rfl) (fun _ => rfl) (ws' := (W_X0_X5 (0 : Int32) q_size q_least q_greatest t2.2 t8.1 t8.2 u_wide u_high u_slackNow u_tenants u_letters u_readings u_kinds u_painOf u_payFor u_refused u_owned u_litIn u_shapes u_readAt u_meant u_readSo)) rfl (pc' := 16) rfl ?_
  refine mm_aload_n 1 dX0_find_16 rfl rfl (pc' := 17) rfl ?_
  refine mm_aload_n 2 dX0_find_17 rfl rfl (pc' := 18) rfl ?_
  refine mm_iconst dX0_find_18 ki_0 (pc' := 19) rfl ?_
  refine mm_iconst dX0_find_19 ki_m1 (pc' := 20) rfl ?_
  refine mm_iconst dX0_find_20 ki_m1 (pc' := 21) rfl ?_
  obtain ⟨t21, h21, h⟩ := mm_bd h
  refine mm_call0 (As := [.ref 4, .int (0 : Int32), .int (-1 : Int32), .int (-1 : Int32)]) (rest := []) cV_X0_44 (ok_X0_look h21) ⟨rfl, rfl, Nat.le_of_ble_eq_true rfl, Nat.le_of_ble_eq_true rfl⟩ dX0_find_21 rfl rfl rfl rfl (by rintro _ _ ⟨-, rfl⟩; rfl) (Nat.le_of_ble_eq_true rfl) ⟨Nat.le_of_ble_eq_true rfl, Nat.le_of_ble_eq_true rfl⟩ (pc' := 24) rfl ?_
  rintro rv w ⟨rfl, rfl⟩
  show mm_Wp _ _ _ _ 24 [(2, .int t2.1), (0, .ref 0), (1, .ref 4)] [] (W_X0_X5 t21.1 t21.2.1 t21.2.2.1 t21.2.2.2 t2.2 t8.1 t8.2 u_wide u_high u_slackNow u_tenants u_letters u_readings u_kinds u_painOf u_payFor u_refused u_owned u_litIn u_shapes u_readAt u_meant u_readSo)
  clear h21
  refine mm_iconst dX0_find_24 ki_0 (pc' := 25) rfl ?_
  refine mm_istore_n dX0_find_25 rfl (by decide) (l' := [(3, .int (0 : Int32)), (2, .int t2.1), (0, .ref 0), (1, .ref 4)]) rfl (pc' := 26) rfl ?_
  exact mm_sub [2, 3, 1, 0] rfl (s_X0_find_L26  _ _ _ _ _ _ h)

def P_X1_addLarger (q_pains : Int32) (q_windows : Nat → Int32) (q_shapes : Nat → Int32) (q_places_y : Int32) (q_places_boxes : Int32) (q_places_lastColumn : Int32) (q_places_lastTop : Int32) (q_places_columns : Nat → Int32) (q_painsOfCell : Nat → Int32) (q_painsAt_0 : Nat → Int32) (q_painsAt_1 : Nat → Int32) (q_painsAt_2 : Nat → Int32) (q_shapeAt_0 : Nat → Int32) (q_shapeAt_1 : Nat → Int32) (q_shapeAt_2 : Nat → Int32) (r : Int32 × (Nat → Int32)) : Option Value → mm_W → Prop := fun rv w => rv = some (.int r.1) ∧ w = (W_X1 q_pains q_windows q_shapes q_places_y q_places_boxes q_places_lastColumn q_places_lastTop q_places_columns r.2 q_painsOfCell q_painsAt_0 q_painsAt_1 q_painsAt_2 q_shapeAt_0 q_shapeAt_1 q_shapeAt_2)
def X1_addLarger_J41 (fu : Nat) (rec5 : (Nat → Int32) → Int32 → Int32 → Option (Int32 × (Nat → Int32))) (q_deviations : Nat → Int32) (v1 : Int32) (v3 : Int32) (v4 : Int32)  : Option (Int32 × (Nat → Int32)) := rec5 q_deviations v3 (v4 + (1 : Int32))
set_option maxHeartbeats 4000000 in
set_option maxRecDepth 100000 in
theorem s_X1_addLarger_J41 {fu : Nat} {q_pains : Int32} {q_windows : Nat → Int32} {q_shapes : Nat → Int32} {q_places_y : Int32} {q_places_boxes : Int32} {q_places_lastColumn : Int32} {q_places_lastTop : Int32} {q_places_columns : Nat → Int32} {q_deviations : Nat → Int32} {q_painsOfCell : Nat → Int32} {q_painsAt_0 : Nat → Int32} {q_painsAt_1 : Nat → Int32} {q_painsAt_2 : Nat → Int32} {q_shapeAt_0 : Nat → Int32} {q_shapeAt_1 : Nat → Int32} {q_shapeAt_2 : Nat → Int32} {r : Int32 × (Nat → Int32)} {rec5 : (Nat → Int32) → Int32 → Int32 → Option (Int32 × (Nat → Int32))} {v1 : Int32} {v3 : Int32} {v4 : Int32} (hr5 : ∀ (z_q_deviations : Nat → Int32) (y3 : Int32) (y4 : Int32), rec5 z_q_deviations y3 y4 = some r → mm_Wp mX1_addLarger (mm_R (P_X1_addLarger q_pains q_windows q_shapes q_places_y q_places_boxes q_places_lastColumn q_places_lastTop q_places_columns q_painsOfCell q_painsAt_0 q_painsAt_1 q_painsAt_2 q_shapeAt_0 q_shapeAt_1 q_shapeAt_2 r)) 0 0 5 [(0, .ref 0), (1, .int v1), (3, .int y3), (4, .int y4)] [] (W_X1 q_pains q_windows q_shapes q_places_y q_places_boxes q_places_lastColumn q_places_lastTop q_places_columns z_q_deviations q_painsOfCell q_painsAt_0 q_painsAt_1 q_painsAt_2 q_shapeAt_0 q_shapeAt_1 q_shapeAt_2)) (h : X1_addLarger_J41 fu rec5 q_deviations v1 v3 v4 = some r) : mm_Wp mX1_addLarger (mm_R (P_X1_addLarger q_pains q_windows q_shapes q_places_y q_places_boxes q_places_lastColumn q_places_lastTop q_places_columns q_painsOfCell q_painsAt_0 q_painsAt_1 q_painsAt_2 q_shapeAt_0 q_shapeAt_1 q_shapeAt_2 r)) 0 0 41 [(0, .ref 0), (1, .int v1), (3, .int v3), (4, .int v4)] [] (W_X1 q_pains q_windows q_shapes q_places_y q_places_boxes q_places_lastColumn q_places_lastTop q_places_columns q_deviations q_painsOfCell q_painsAt_0 q_painsAt_1 q_painsAt_2 q_shapeAt_0 q_shapeAt_1 q_shapeAt_2) := by
  rw [X1_addLarger_J41] at h
  refine mm_iinc 3 dX1_addLarger_41 rfl ki_1 (by decide) (l' := [(4, .int (v4 + (1 : Int32))), (0, .ref 0), (1, .int v1), (3, .int v3)]) rfl (pc' := 44) rfl ?_
  refine mm_goto (tgt := 5) dX1_addLarger_44 (by decide) ?_
  exact mm_sub [1, 2, 3, 0] rfl (hr5 _ _ _ h)
def X1_addLarger_L5 (fu : Nat)   (v1 : Int32) : Nat → (Nat → Int32) → Int32 → Int32 → Option (Int32 × (Nat → Int32))
  | 0, _, _, _ => none
  | n + 1, q_deviations, v3, v4 => if (12 : Int32) ≤ v4 then (some (v3, q_deviations)) else (if (v1 >>> (v4 &&& 31)) = 0 then (if (299 : Int32) ≤ v3 then (X1_addLarger_J41 fu (X1_addLarger_L5 fu v1 n) q_deviations v1 v3 v4) else (mm_ck 299 v3 (X1_addLarger_J41 fu (X1_addLarger_L5 fu v1 n) (upd q_deviations v3.toNatClampNeg (v1 ||| ((1 : Int32) <<< (v4 &&& 31)))) v1 (v3 + (1 : Int32)) v4))) else (X1_addLarger_J41 fu (X1_addLarger_L5 fu v1 n) q_deviations v1 v3 v4))
set_option maxHeartbeats 4000000 in
set_option maxRecDepth 100000 in
theorem s_X1_addLarger_L5 {fu : Nat} {q_pains : Int32} {q_windows : Nat → Int32} {q_shapes : Nat → Int32} {q_places_y : Int32} {q_places_boxes : Int32} {q_places_lastColumn : Int32} {q_places_lastTop : Int32} {q_places_columns : Nat → Int32} {q_painsOfCell : Nat → Int32} {q_painsAt_0 : Nat → Int32} {q_painsAt_1 : Nat → Int32} {q_painsAt_2 : Nat → Int32} {q_shapeAt_0 : Nat → Int32} {q_shapeAt_1 : Nat → Int32} {q_shapeAt_2 : Nat → Int32} {r : Int32 × (Nat → Int32)} {v1 : Int32} : ∀ (n : Nat) (q_deviations : Nat → Int32) (v3 : Int32) (v4 : Int32), X1_addLarger_L5 fu v1 n q_deviations v3 v4 = some r → mm_Wp mX1_addLarger (mm_R (P_X1_addLarger q_pains q_windows q_shapes q_places_y q_places_boxes q_places_lastColumn q_places_lastTop q_places_columns q_painsOfCell q_painsAt_0 q_painsAt_1 q_painsAt_2 q_shapeAt_0 q_shapeAt_1 q_shapeAt_2 r)) 0 0 5 [(0, .ref 0), (1, .int v1), (3, .int v3), (4, .int v4)] [] (W_X1 q_pains q_windows q_shapes q_places_y q_places_boxes q_places_lastColumn q_places_lastTop q_places_columns q_deviations q_painsOfCell q_painsAt_0 q_painsAt_1 q_painsAt_2 q_shapeAt_0 q_shapeAt_1 q_shapeAt_2) := by
  intro n
  induction n with
  | zero =>
    intro q_deviations v3 v4 h
    rw [X1_addLarger_L5] at h
    cases h
  | succ n hr5 =>
    intro q_deviations v3 v4 h
    rw [X1_addLarger_L5] at h
    refine mm_iload 3 dX1_addLarger_5 rfl (pc' := 7) rfl ?_
    refine mm_bipush dX1_addLarger_7 kb_12 (pc' := 9) rfl ?_
    refine mm_icmp_ge (tgt := 47) dX1_addLarger_9 (by decide) (pc' := 12) rfl (fun c => ?_) (fun c => ?_)
    · replace h := mm_it h c
      clear c
      refine mm_iload_n 2 dX1_addLarger_47 rfl rfl (pc' := 48) rfl ?_
      have h9 := Option.some.inj h
      subst h9
      exact mm_iret rfl dX1_addLarger_48 ⟨rfl, rfl⟩
    · replace h := mm_if h c
      clear c
      refine mm_iload_n 1 dX1_addLarger_12 rfl rfl (pc' := 13) rfl ?_
      refine mm_iload 3 dX1_addLarger_13 rfl (pc' := 15) rfl ?_
      refine mm_ishr dX1_addLarger_15 (pc' := 16) rfl ?_
      refine mm_if_ne (tgt := 41) dX1_addLarger_16 (by decide) (pc' := 19) rfl (fun c => ?_) (fun c => ?_)
      · replace h := mm_if h c
        clear c
        exact s_X1_addLarger_J41 (hr5 := hr5) h
      · replace h := mm_it h c
        clear c
        refine mm_iload_n 2 dX1_addLarger_19 rfl rfl (pc' := 20) rfl ?_
        refine mm_sipush dX1_addLarger_20 ks_299 (pc' := 23) rfl ?_
        refine mm_icmp_ge (tgt := 41) dX1_addLarger_23 (by decide) (pc' := 26) rfl (fun c => ?_) (fun c => ?_)
        · replace h := mm_it h c
          clear c
          exact s_X1_addLarger_J41 (hr5 := hr5) h
        · replace h := mm_if h c
          clear c
          refine mm_aload_n 0 dX1_addLarger_26 rfl rfl (pc' := 27) rfl ?_
          refine mm_getf fG_X1_29 dX1_addLarger_27 rfl rfl (pc' := 30) rfl ?_
          refine mm_iload_n 2 dX1_addLarger_30 rfl rfl (pc' := 31) rfl ?_
          refine mm_iload_n 1 dX1_addLarger_31 rfl rfl (pc' := 32) rfl ?_
          refine mm_iconst dX1_addLarger_32 ki_1 (pc' := 33) rfl ?_
          refine mm_iload 3 dX1_addLarger_33 rfl (pc' := 35) rfl ?_
          refine mm_ishl dX1_addLarger_35 (pc' := 36) rfl ?_
          refine mm_ior dX1_addLarger_36 (pc' := 37) rfl ?_
          obtain ⟨c37, h⟩ := mm_ck_of h
          refine mm_iast dX1_addLarger_37 rfl c37 rfl (ws' := (W_X1 q_pains q_windows q_shapes q_places_y q_places_boxes q_places_lastColumn q_places_lastTop q_places_columns (upd q_deviations v3.toNatClampNeg (v1 ||| ((1 : Int32) <<< (v4 &&& 31)))) q_painsOfCell q_painsAt_0 q_painsAt_1 q_painsAt_2 q_shapeAt_0 q_shapeAt_1 q_shapeAt_2)) rfl (pc' := 38) rfl ?_
          clear c37
          refine mm_iinc 2 dX1_addLarger_38 rfl ki_1 (by decide) (l' := [(3, .int (v3 + (1 : Int32))), (0, .ref 0), (1, .int v1), (4, .int v4)]) rfl (pc' := 41) rfl ?_
          exact mm_sub [1, 2, 0, 3] rfl (s_X1_addLarger_J41 (hr5 := hr5) h)
def f_X1_addLarger (fu : Nat) (q_deviations : Nat → Int32) (v1 : Int32) (v2 : Int32) : Option (Int32 × (Nat → Int32)) := X1_addLarger_L5 fu v1 fu q_deviations v2 (0 : Int32)
set_option maxHeartbeats 4000000 in
set_option maxRecDepth 100000 in
theorem ok_X1_addLarger {fu : Nat} {q_pains : Int32} {q_windows : Nat → Int32} {q_shapes : Nat → Int32} {q_places_y : Int32} {q_places_boxes : Int32} {q_places_lastColumn : Int32} {q_places_lastTop : Int32} {q_places_columns : Nat → Int32} {q_deviations : Nat → Int32} {q_painsOfCell : Nat → Int32} {q_painsAt_0 : Nat → Int32} {q_painsAt_1 : Nat → Int32} {q_painsAt_2 : Nat → Int32} {q_shapeAt_0 : Nat → Int32} {q_shapeAt_1 : Nat → Int32} {q_shapeAt_2 : Nat → Int32} {r : Int32 × (Nat → Int32)} {v1 : Int32} {v2 : Int32} (h : f_X1_addLarger fu q_deviations v1 v2 = some r) : mm_Ok mX1_addLarger [.ref 0, .int v1, .int v2] (W_X1 q_pains q_windows q_shapes q_places_y q_places_boxes q_places_lastColumn q_places_lastTop q_places_columns q_deviations q_painsOfCell q_painsAt_0 q_painsAt_1 q_painsAt_2 q_shapeAt_0 q_shapeAt_1 q_shapeAt_2) (P_X1_addLarger q_pains q_windows q_shapes q_places_y q_places_boxes q_places_lastColumn q_places_lastTop q_places_columns q_painsOfCell q_painsAt_0 q_painsAt_1 q_painsAt_2 q_shapeAt_0 q_shapeAt_1 q_shapeAt_2 r) := by
  rw [f_X1_addLarger] at h
  refine mm_Ok.of pn_X1 (l := [(0, .ref 0), (1, .int v1), (2, .int v2)]) rfl (Nat.le_of_ble_eq_true rfl) ?_
  refine mm_iload_n 2 dX1_addLarger_0 rfl rfl (pc' := 1) rfl ?_
  refine mm_istore_n dX1_addLarger_1 rfl (by decide) (l' := [(3, .int v2), (0, .ref 0), (1, .int v1), (2, .int v2)]) rfl (pc' := 2) rfl ?_
  refine mm_iconst dX1_addLarger_2 ki_0 (pc' := 3) rfl ?_
  refine mm_istore dX1_addLarger_3 (by decide) (l' := [(4, .int (0 : Int32)), (3, .int v2), (0, .ref 0), (1, .int v1), (2, .int v2)]) rfl (pc' := 5) rfl ?_
  exact mm_sub [2, 3, 1, 0] rfl (s_X1_addLarger_L5  _ _ _ _ h)

def P_X1_tellCells (q_pains : Int32) (q_windows : Nat → Int32) (q_shapes : Nat → Int32) (q_places_y : Int32) (q_places_boxes : Int32) (q_places_lastColumn : Int32) (q_places_lastTop : Int32) (q_places_columns : Nat → Int32) (q_deviations : Nat → Int32) (q_painsAt_0 : Nat → Int32) (q_painsAt_1 : Nat → Int32) (q_painsAt_2 : Nat → Int32) (q_shapeAt_0 : Nat → Int32) (q_shapeAt_1 : Nat → Int32) (q_shapeAt_2 : Nat → Int32) (u_wide : Int32) (u_high : Int32) (u_slackNow : Int32) (u_tenants : Int32) (u_letters : Int32) (u_readings : Int32) (u_kinds : Nat → Int32) (u_painOf : Nat → Int32) (u_payFor : Nat → Int32) (u_refused : Nat → Int32) (u_owned : Nat → Int64) (u_litIn : Nat → Int64) (u_shapes : Nat → Int32) (u_readAt : Nat → Int32) (u_meant : Nat → Int32) (u_readSo : Nat → Int32) (w_length : Int32) (w_bits : Int32) (w_letters : Nat → Int32) (r : (Nat → Int32)) : Option Value → mm_W → Prop := fun rv w => rv = none ∧ w = (W_X1_X5_X6 q_pains q_windows q_shapes q_places_y q_places_boxes q_places_lastColumn q_places_lastTop q_places_columns q_deviations r q_painsAt_0 q_painsAt_1 q_painsAt_2 q_shapeAt_0 q_shapeAt_1 q_shapeAt_2 u_wide u_high u_slackNow u_tenants u_letters u_readings u_kinds u_painOf u_payFor u_refused u_owned u_litIn u_shapes u_readAt u_meant u_readSo w_length w_bits w_letters)
def X1_tellCells_L3 (fu : Nat)  (u_tenants : Int32) (u_kinds : Nat → Int32) (u_painOf : Nat → Int32) (u_owned : Nat → Int64) (u_litIn : Nat → Int64) (v2 : Int32) (v3 : Int32) : Nat → (Nat → Int32) → Int32 → Option ((Nat → Int32))
  | 0, _, _ => none
  | n + 1, q_painsOfCell, v4 => if (12 : Int32) ≤ v4 then (some (q_painsOfCell)) else (mm_let ((v2 + ((12 : Int32) * (v4 / (3 : Int32)))) + (v4 - v4 / (3 : Int32) * (3 : Int32))) fun y24 => (f_X5_painsOfChange fu u_tenants u_kinds u_painOf u_owned u_litIn y24 v3).bind fun t36 => mm_ck 12 v4 ((X1_tellCells_L3 fu u_tenants u_kinds u_painOf u_owned u_litIn v2 v3 n) (upd q_painsOfCell v4.toNatClampNeg t36) (v4 + (1 : Int32))))
set_option maxHeartbeats 4000000 in
set_option maxRecDepth 100000 in
theorem s_X1_tellCells_L3 {fu : Nat} {q_pains : Int32} {q_windows : Nat → Int32} {q_shapes : Nat → Int32} {q_places_y : Int32} {q_places_boxes : Int32} {q_places_lastColumn : Int32} {q_places_lastTop : Int32} {q_places_columns : Nat → Int32} {q_deviations : Nat → Int32} {q_painsAt_0 : Nat → Int32} {q_painsAt_1 : Nat → Int32} {q_painsAt_2 : Nat → Int32} {q_shapeAt_0 : Nat → Int32} {q_shapeAt_1 : Nat → Int32} {q_shapeAt_2 : Nat → Int32} {u_wide : Int32} {u_high : Int32} {u_slackNow : Int32} {u_tenants : Int32} {u_letters : Int32} {u_readings : Int32} {u_kinds : Nat → Int32} {u_painOf : Nat → Int32} {u_payFor : Nat → Int32} {u_refused : Nat → Int32} {u_owned : Nat → Int64} {u_litIn : Nat → Int64} {u_shapes : Nat → Int32} {u_readAt : Nat → Int32} {u_meant : Nat → Int32} {u_readSo : Nat → Int32} {w_length : Int32} {w_bits : Int32} {w_letters : Nat → Int32} {r : (Nat → Int32)} {v2 : Int32} {v3 : Int32} : ∀ (n : Nat) (q_painsOfCell : Nat → Int32) (v4 : Int32), X1_tellCells_L3 fu u_tenants u_kinds u_painOf u_owned u_litIn v2 v3 n q_painsOfCell v4 = some r → mm_Wp mX1_tellCells (mm_R (P_X1_tellCells q_pains q_windows q_shapes q_places_y q_places_boxes q_places_lastColumn q_places_lastTop q_places_columns q_deviations q_painsAt_0 q_painsAt_1 q_painsAt_2 q_shapeAt_0 q_shapeAt_1 q_shapeAt_2 u_wide u_high u_slackNow u_tenants u_letters u_readings u_kinds u_painOf u_payFor u_refused u_owned u_litIn u_shapes u_readAt u_meant u_readSo w_length w_bits w_letters r)) 0 0 3 [(0, .ref 0), (1, .ref 15), (2, .int v2), (3, .int v3), (4, .int v4)] [] (W_X1_X5_X6 q_pains q_windows q_shapes q_places_y q_places_boxes q_places_lastColumn q_places_lastTop q_places_columns q_deviations q_painsOfCell q_painsAt_0 q_painsAt_1 q_painsAt_2 q_shapeAt_0 q_shapeAt_1 q_shapeAt_2 u_wide u_high u_slackNow u_tenants u_letters u_readings u_kinds u_painOf u_payFor u_refused u_owned u_litIn u_shapes u_readAt u_meant u_readSo w_length w_bits w_letters) := by
  intro n
  induction n with
  | zero =>
    intro q_painsOfCell v4 h
    rw [X1_tellCells_L3] at h
    cases h
  | succ n hr3 =>
    intro q_painsOfCell v4 h
    rw [X1_tellCells_L3] at h
    refine mm_iload 4 dX1_tellCells_3 rfl (pc' := 5) rfl ?_
    refine mm_bipush dX1_tellCells_5 kb_12 (pc' := 7) rfl ?_
    refine mm_icmp_ge (tgt := 46) dX1_tellCells_7 (by decide) (pc' := 10) rfl (fun c => ?_) (fun c => ?_)
    · replace h := mm_it h c
      clear c
      have h9 := Option.some.inj h
      subst h9
      exact mm_vret rfl dX1_tellCells_46 ⟨rfl, rfl⟩
    · replace h := mm_if h c
      clear c
      refine mm_iload_n 2 dX1_tellCells_10 rfl rfl (pc' := 11) rfl ?_
      refine mm_bipush dX1_tellCells_11 kb_12 (pc' := 13) rfl ?_
      refine mm_iload 4 dX1_tellCells_13 rfl (pc' := 15) rfl ?_
      refine mm_iconst dX1_tellCells_15 ki_3 (pc' := 16) rfl ?_
      refine mm_idiv dX1_tellCells_16 (by decide) (pc' := 17) rfl ?_
      refine mm_imul dX1_tellCells_17 (pc' := 18) rfl ?_
      refine mm_iadd dX1_tellCells_18 (pc' := 19) rfl ?_
      refine mm_iload 4 dX1_tellCells_19 rfl (pc' := 21) rfl ?_
      refine mm_iconst dX1_tellCells_21 ki_3 (pc' := 22) rfl ?_
      refine mm_irem dX1_tellCells_22 (by decide) (pc' := 23) rfl ?_
      refine mm_iadd dX1_tellCells_23 (pc' := 24) rfl ?_
      refine mm_topi (fun y24 e => ?_)
      replace h := mm_let_of h y24 e
      clear e
      refine mm_istore dX1_tellCells_24 (by decide) (l' := [(5, .int y24), (0, .ref 0), (1, .ref 15), (2, .int v2), (3, .int v3), (4, .int v4)]) rfl (pc' := 26) rfl ?_
      refine mm_aload_n 1 dX1_tellCells_26 rfl rfl (pc' := 27) rfl ?_
      refine mm_getf fG_X1_32 dX1_tellCells_27 rfl rfl (pc' := 30) rfl ?_
      refine mm_iload 5 dX1_tellCells_30 rfl (pc' := 32) rfl ?_
      refine mm_aload_n 2 dX1_tellCells_32 rfl rfl (pc' := 33) rfl ?_
      refine mm_iload 0 dX1_tellCells_33 rfl (pc' := 35) rfl ?_
      refine mm_iload_n 4 dX1_tellCells_35 rfl rfl (pc' := 36) rfl ?_
      obtain ⟨t36, h36, h⟩ := mm_bd h
      refine mm_callV (As := [.int y24, .int v3]) (rest := [.int v4, .ref 6]) (av := [.ref 0, .int y24, .int v3]) (wc := (W_X5 u_wide u_high u_slackNow u_tenants u_letters u_readings u_kinds u_painOf u_payFor u_refused u_owned u_litIn u_shapes u_readAt u_meant u_readSo)) (is := [15, 16, 17, 18, 19, 20, 21, 22, 23, 24, 25]) cV_X1_122 (ok_X5_painsOfChange h36) ⟨rfl, rfl, Nat.le_of_ble_eq_true rfl, Nat.le_of_ble_eq_true rfl⟩ dX1_tellCells_36 rfl rfl rfl rfl rfl ⟨rfl, by decide, by decide⟩ (by rintro _ _ ⟨-, rfl⟩; rfl) (Nat.le_of_ble_eq_true rfl) ⟨Nat.le_of_ble_eq_true rfl, Nat.le_of_ble_eq_true rfl⟩ (pc' := 39) rfl ?_
      rintro rv w ⟨rfl, rfl⟩
      show mm_Wp _ _ _ _ 39 [(5, .int y24), (0, .ref 0), (1, .ref 15), (2, .int v2), (3, .int v3), (4, .int v4)] [.int t36, .int v4, .ref 6] (W_X1_X5_X6 q_pains q_windows q_shapes q_places_y q_places_boxes q_places_lastColumn q_places_lastTop q_places_columns q_deviations q_painsOfCell q_painsAt_0 q_painsAt_1 q_painsAt_2 q_shapeAt_0 q_shapeAt_1 q_shapeAt_2 u_wide u_high u_slackNow u_tenants u_letters u_readings u_kinds u_painOf u_payFor u_refused u_owned u_litIn u_shapes u_readAt u_meant u_readSo w_length w_bits w_letters)
      clear h36
      obtain ⟨c39, h⟩ := mm_ck_of h
      refine mm_iast dX1_tellCells_39 rfl c39 rfl (ws' := (W_X1_X5_X6 q_pains q_windows q_shapes q_places_y q_places_boxes q_places_lastColumn q_places_lastTop q_places_columns q_deviations (upd q_painsOfCell v4.toNatClampNeg t36) q_painsAt_0 q_painsAt_1 q_painsAt_2 q_shapeAt_0 q_shapeAt_1 q_shapeAt_2 u_wide u_high u_slackNow u_tenants u_letters u_readings u_kinds u_painOf u_payFor u_refused u_owned u_litIn u_shapes u_readAt u_meant u_readSo w_length w_bits w_letters)) rfl (pc' := 40) rfl ?_
      clear c39
      refine mm_iinc 5 dX1_tellCells_40 rfl ki_1 (by decide) (l' := [(4, .int (v4 + (1 : Int32))), (5, .int y24), (0, .ref 0), (1, .ref 15), (2, .int v2), (3, .int v3)]) rfl (pc' := 43) rfl ?_
      refine mm_goto (tgt := 3) dX1_tellCells_43 (by decide) ?_
      exact mm_sub [2, 3, 4, 5, 0] rfl (hr3 _ _ h)
def f_X1_tellCells (fu : Nat) (q_painsOfCell : Nat → Int32) (u_tenants : Int32) (u_kinds : Nat → Int32) (u_painOf : Nat → Int32) (u_owned : Nat → Int64) (u_litIn : Nat → Int64) (v2 : Int32) (v3 : Int32) : Option ((Nat → Int32)) := X1_tellCells_L3 fu u_tenants u_kinds u_painOf u_owned u_litIn v2 v3 fu q_painsOfCell (0 : Int32)
set_option maxHeartbeats 4000000 in
set_option maxRecDepth 100000 in
theorem ok_X1_tellCells {fu : Nat} {q_pains : Int32} {q_windows : Nat → Int32} {q_shapes : Nat → Int32} {q_places_y : Int32} {q_places_boxes : Int32} {q_places_lastColumn : Int32} {q_places_lastTop : Int32} {q_places_columns : Nat → Int32} {q_deviations : Nat → Int32} {q_painsOfCell : Nat → Int32} {q_painsAt_0 : Nat → Int32} {q_painsAt_1 : Nat → Int32} {q_painsAt_2 : Nat → Int32} {q_shapeAt_0 : Nat → Int32} {q_shapeAt_1 : Nat → Int32} {q_shapeAt_2 : Nat → Int32} {u_wide : Int32} {u_high : Int32} {u_slackNow : Int32} {u_tenants : Int32} {u_letters : Int32} {u_readings : Int32} {u_kinds : Nat → Int32} {u_painOf : Nat → Int32} {u_payFor : Nat → Int32} {u_refused : Nat → Int32} {u_owned : Nat → Int64} {u_litIn : Nat → Int64} {u_shapes : Nat → Int32} {u_readAt : Nat → Int32} {u_meant : Nat → Int32} {u_readSo : Nat → Int32} {w_length : Int32} {w_bits : Int32} {w_letters : Nat → Int32} {r : (Nat → Int32)} {v2 : Int32} {v3 : Int32} (h : f_X1_tellCells fu q_painsOfCell u_tenants u_kinds u_painOf u_owned u_litIn v2 v3 = some r) : mm_Ok mX1_tellCells [.ref 0, .ref 15, .int v2, .int v3] (W_X1_X5_X6 q_pains q_windows q_shapes q_places_y q_places_boxes q_places_lastColumn q_places_lastTop q_places_columns q_deviations q_painsOfCell q_painsAt_0 q_painsAt_1 q_painsAt_2 q_shapeAt_0 q_shapeAt_1 q_shapeAt_2 u_wide u_high u_slackNow u_tenants u_letters u_readings u_kinds u_painOf u_payFor u_refused u_owned u_litIn u_shapes u_readAt u_meant u_readSo w_length w_bits w_letters) (P_X1_tellCells q_pains q_windows q_shapes q_places_y q_places_boxes q_places_lastColumn q_places_lastTop q_places_columns q_deviations q_painsAt_0 q_painsAt_1 q_painsAt_2 q_shapeAt_0 q_shapeAt_1 q_shapeAt_2 u_wide u_high u_slackNow u_tenants u_letters u_readings u_kinds u_painOf u_payFor u_refused u_owned u_litIn u_shapes u_readAt u_meant u_readSo w_length w_bits w_letters r) := by
  rw [f_X1_tellCells] at h
  refine mm_Ok.of pn_X1 (l := [(0, .ref 0), (1, .ref 15), (2, .int v2), (3, .int v3)]) rfl (Nat.le_of_ble_eq_true rfl) ?_
  refine mm_iconst dX1_tellCells_0 ki_0 (pc' := 1) rfl ?_
  refine mm_istore dX1_tellCells_1 (by decide) (l' := [(4, .int (0 : Int32)), (0, .ref 0), (1, .ref 15), (2, .int v2), (3, .int v3)]) rfl (pc' := 3) rfl ?_
  exact mm_sub [1, 2, 3, 4, 0] rfl (s_X1_tellCells_L3  _ _ _ h)

def P_X1_painsOfCells (q_pains : Int32) (q_windows : Nat → Int32) (q_shapes : Nat → Int32) (q_places_y : Int32) (q_places_boxes : Int32) (q_places_lastColumn : Int32) (q_places_lastTop : Int32) (q_places_columns : Nat → Int32) (q_deviations : Nat → Int32) (q_painsOfCell : Nat → Int32) (q_painsAt_0 : Nat → Int32) (q_painsAt_1 : Nat → Int32) (q_painsAt_2 : Nat → Int32) (q_shapeAt_0 : Nat → Int32) (q_shapeAt_1 : Nat → Int32) (q_shapeAt_2 : Nat → Int32) (u_wide : Int32) (u_high : Int32) (u_slackNow : Int32) (u_tenants : Int32) (u_letters : Int32) (u_readings : Int32) (u_kinds : Nat → Int32) (u_painOf : Nat → Int32) (u_payFor : Nat → Int32) (u_refused : Nat → Int32) (u_owned : Nat → Int64) (u_litIn : Nat → Int64) (u_shapes : Nat → Int32) (u_readAt : Nat → Int32) (u_meant : Nat → Int32) (u_readSo : Nat → Int32) (w_length : Int32) (w_bits : Int32) (w_letters : Nat → Int32) (r : Int32) : Option Value → mm_W → Prop := fun rv w => rv = some (.int r) ∧ w = (W_X1_X5_X6 q_pains q_windows q_shapes q_places_y q_places_boxes q_places_lastColumn q_places_lastTop q_places_columns q_deviations q_painsOfCell q_painsAt_0 q_painsAt_1 q_painsAt_2 q_shapeAt_0 q_shapeAt_1 q_shapeAt_2 u_wide u_high u_slackNow u_tenants u_letters u_readings u_kinds u_painOf u_payFor u_refused u_owned u_litIn u_shapes u_readAt u_meant u_readSo w_length w_bits w_letters)
def X1_painsOfCells_J28 (fu : Nat) (rec4 : Int32 → Int32 → Option (Int32)) (q_painsOfCell : Nat → Int32) (v1 : Int32) (v2 : Int32) (v3 : Int32)  : Option (Int32) := rec4 v2 (v3 + (1 : Int32))
set_option maxHeartbeats 4000000 in
set_option maxRecDepth 100000 in
theorem s_X1_painsOfCells_J28 {fu : Nat} {q_pains : Int32} {q_windows : Nat → Int32} {q_shapes : Nat → Int32} {q_places_y : Int32} {q_places_boxes : Int32} {q_places_lastColumn : Int32} {q_places_lastTop : Int32} {q_places_columns : Nat → Int32} {q_deviations : Nat → Int32} {q_painsOfCell : Nat → Int32} {q_painsAt_0 : Nat → Int32} {q_painsAt_1 : Nat → Int32} {q_painsAt_2 : Nat → Int32} {q_shapeAt_0 : Nat → Int32} {q_shapeAt_1 : Nat → Int32} {q_shapeAt_2 : Nat → Int32} {u_wide : Int32} {u_high : Int32} {u_slackNow : Int32} {u_tenants : Int32} {u_letters : Int32} {u_readings : Int32} {u_kinds : Nat → Int32} {u_painOf : Nat → Int32} {u_payFor : Nat → Int32} {u_refused : Nat → Int32} {u_owned : Nat → Int64} {u_litIn : Nat → Int64} {u_shapes : Nat → Int32} {u_readAt : Nat → Int32} {u_meant : Nat → Int32} {u_readSo : Nat → Int32} {w_length : Int32} {w_bits : Int32} {w_letters : Nat → Int32} {r : Int32} {rec4 : Int32 → Int32 → Option (Int32)} {v1 : Int32} {v2 : Int32} {v3 : Int32} (hr4 : ∀ (y2 : Int32) (y3 : Int32), rec4 y2 y3 = some r → mm_Wp mX1_painsOfCells (mm_R (P_X1_painsOfCells q_pains q_windows q_shapes q_places_y q_places_boxes q_places_lastColumn q_places_lastTop q_places_columns q_deviations q_painsOfCell q_painsAt_0 q_painsAt_1 q_painsAt_2 q_shapeAt_0 q_shapeAt_1 q_shapeAt_2 u_wide u_high u_slackNow u_tenants u_letters u_readings u_kinds u_painOf u_payFor u_refused u_owned u_litIn u_shapes u_readAt u_meant u_readSo w_length w_bits w_letters r)) 0 0 4 [(0, .ref 0), (1, .int v1), (2, .int y2), (3, .int y3)] [] (W_X1_X5_X6 q_pains q_windows q_shapes q_places_y q_places_boxes q_places_lastColumn q_places_lastTop q_places_columns q_deviations q_painsOfCell q_painsAt_0 q_painsAt_1 q_painsAt_2 q_shapeAt_0 q_shapeAt_1 q_shapeAt_2 u_wide u_high u_slackNow u_tenants u_letters u_readings u_kinds u_painOf u_payFor u_refused u_owned u_litIn u_shapes u_readAt u_meant u_readSo w_length w_bits w_letters)) (h : X1_painsOfCells_J28 fu rec4 q_painsOfCell v1 v2 v3 = some r) : mm_Wp mX1_painsOfCells (mm_R (P_X1_painsOfCells q_pains q_windows q_shapes q_places_y q_places_boxes q_places_lastColumn q_places_lastTop q_places_columns q_deviations q_painsOfCell q_painsAt_0 q_painsAt_1 q_painsAt_2 q_shapeAt_0 q_shapeAt_1 q_shapeAt_2 u_wide u_high u_slackNow u_tenants u_letters u_readings u_kinds u_painOf u_payFor u_refused u_owned u_litIn u_shapes u_readAt u_meant u_readSo w_length w_bits w_letters r)) 0 0 28 [(0, .ref 0), (1, .int v1), (2, .int v2), (3, .int v3)] [] (W_X1_X5_X6 q_pains q_windows q_shapes q_places_y q_places_boxes q_places_lastColumn q_places_lastTop q_places_columns q_deviations q_painsOfCell q_painsAt_0 q_painsAt_1 q_painsAt_2 q_shapeAt_0 q_shapeAt_1 q_shapeAt_2 u_wide u_high u_slackNow u_tenants u_letters u_readings u_kinds u_painOf u_payFor u_refused u_owned u_litIn u_shapes u_readAt u_meant u_readSo w_length w_bits w_letters) := by
  rw [X1_painsOfCells_J28] at h
  refine mm_iinc 3 dX1_painsOfCells_28 rfl ki_1 (by decide) (l' := [(3, .int (v3 + (1 : Int32))), (0, .ref 0), (1, .int v1), (2, .int v2)]) rfl (pc' := 31) rfl ?_
  refine mm_goto (tgt := 4) dX1_painsOfCells_31 (by decide) ?_
  exact mm_sub [1, 2, 3, 0] rfl (hr4 _ _ h)
def X1_painsOfCells_L4 (fu : Nat)  (q_painsOfCell : Nat → Int32) (v1 : Int32) : Nat → Int32 → Int32 → Option (Int32)
  | 0, _, _ => none
  | n + 1, v2, v3 => if (12 : Int32) ≤ v3 then (some (v2)) else (if ((v1 >>> (v3 &&& 31)) &&& (1 : Int32)) = (1 : Int32) then (mm_rd q_painsOfCell 12 v3 fun x25 => X1_painsOfCells_J28 fu (X1_painsOfCells_L4 fu q_painsOfCell v1 n) q_painsOfCell v1 (v2 + x25) v3) else (X1_painsOfCells_J28 fu (X1_painsOfCells_L4 fu q_painsOfCell v1 n) q_painsOfCell v1 v2 v3))
set_option maxHeartbeats 4000000 in
set_option maxRecDepth 100000 in
theorem s_X1_painsOfCells_L4 {fu : Nat} {q_pains : Int32} {q_windows : Nat → Int32} {q_shapes : Nat → Int32} {q_places_y : Int32} {q_places_boxes : Int32} {q_places_lastColumn : Int32} {q_places_lastTop : Int32} {q_places_columns : Nat → Int32} {q_deviations : Nat → Int32} {q_painsOfCell : Nat → Int32} {q_painsAt_0 : Nat → Int32} {q_painsAt_1 : Nat → Int32} {q_painsAt_2 : Nat → Int32} {q_shapeAt_0 : Nat → Int32} {q_shapeAt_1 : Nat → Int32} {q_shapeAt_2 : Nat → Int32} {u_wide : Int32} {u_high : Int32} {u_slackNow : Int32} {u_tenants : Int32} {u_letters : Int32} {u_readings : Int32} {u_kinds : Nat → Int32} {u_painOf : Nat → Int32} {u_payFor : Nat → Int32} {u_refused : Nat → Int32} {u_owned : Nat → Int64} {u_litIn : Nat → Int64} {u_shapes : Nat → Int32} {u_readAt : Nat → Int32} {u_meant : Nat → Int32} {u_readSo : Nat → Int32} {w_length : Int32} {w_bits : Int32} {w_letters : Nat → Int32} {r : Int32} {v1 : Int32} : ∀ (n : Nat) (v2 : Int32) (v3 : Int32), X1_painsOfCells_L4 fu q_painsOfCell v1 n v2 v3 = some r → mm_Wp mX1_painsOfCells (mm_R (P_X1_painsOfCells q_pains q_windows q_shapes q_places_y q_places_boxes q_places_lastColumn q_places_lastTop q_places_columns q_deviations q_painsOfCell q_painsAt_0 q_painsAt_1 q_painsAt_2 q_shapeAt_0 q_shapeAt_1 q_shapeAt_2 u_wide u_high u_slackNow u_tenants u_letters u_readings u_kinds u_painOf u_payFor u_refused u_owned u_litIn u_shapes u_readAt u_meant u_readSo w_length w_bits w_letters r)) 0 0 4 [(0, .ref 0), (1, .int v1), (2, .int v2), (3, .int v3)] [] (W_X1_X5_X6 q_pains q_windows q_shapes q_places_y q_places_boxes q_places_lastColumn q_places_lastTop q_places_columns q_deviations q_painsOfCell q_painsAt_0 q_painsAt_1 q_painsAt_2 q_shapeAt_0 q_shapeAt_1 q_shapeAt_2 u_wide u_high u_slackNow u_tenants u_letters u_readings u_kinds u_painOf u_payFor u_refused u_owned u_litIn u_shapes u_readAt u_meant u_readSo w_length w_bits w_letters) := by
  intro n
  induction n with
  | zero =>
    intro v2 v3 h
    rw [X1_painsOfCells_L4] at h
    cases h
  | succ n hr4 =>
    intro v2 v3 h
    rw [X1_painsOfCells_L4] at h
    refine mm_iload_n 3 dX1_painsOfCells_4 rfl rfl (pc' := 5) rfl ?_
    refine mm_bipush dX1_painsOfCells_5 kb_12 (pc' := 7) rfl ?_
    refine mm_icmp_ge (tgt := 34) dX1_painsOfCells_7 (by decide) (pc' := 10) rfl (fun c => ?_) (fun c => ?_)
    · replace h := mm_it h c
      clear c
      refine mm_iload_n 2 dX1_painsOfCells_34 rfl rfl (pc' := 35) rfl ?_
      have h9 := Option.some.inj h
      subst h9
      exact mm_iret rfl dX1_painsOfCells_35 ⟨rfl, rfl⟩
    · replace h := mm_if h c
      clear c
      refine mm_iload_n 1 dX1_painsOfCells_10 rfl rfl (pc' := 11) rfl ?_
      refine mm_iload_n 3 dX1_painsOfCells_11 rfl rfl (pc' := 12) rfl ?_
      refine mm_ishr dX1_painsOfCells_12 (pc' := 13) rfl ?_
      refine mm_iconst dX1_painsOfCells_13 ki_1 (pc' := 14) rfl ?_
      refine mm_iand dX1_painsOfCells_14 (pc' := 15) rfl ?_
      refine mm_iconst dX1_painsOfCells_15 ki_1 (pc' := 16) rfl ?_
      refine mm_icmp_ne (tgt := 28) dX1_painsOfCells_16 (by decide) (pc' := 19) rfl (fun c => ?_) (fun c => ?_)
      · replace h := mm_if h c
        clear c
        exact s_X1_painsOfCells_J28 (hr4 := hr4) h
      · replace h := mm_it h c
        clear c
        refine mm_iload_n 2 dX1_painsOfCells_19 rfl rfl (pc' := 20) rfl ?_
        refine mm_aload_n 0 dX1_painsOfCells_20 rfl rfl (pc' := 21) rfl ?_
        refine mm_getf fG_X1_32 dX1_painsOfCells_21 rfl rfl (pc' := 24) rfl ?_
        refine mm_iload_n 3 dX1_painsOfCells_24 rfl rfl (pc' := 25) rfl ?_
        obtain ⟨x25, c25, e25, h⟩ := mm_rd_of h
        refine mm_iald dX1_painsOfCells_25 rfl c25 e25 (pc' := 26) rfl ?_
        clear c25 e25
        refine mm_iadd dX1_painsOfCells_26 (pc' := 27) rfl ?_
        refine mm_istore_n dX1_painsOfCells_27 rfl (by decide) (l' := [(2, .int (v2 + x25)), (0, .ref 0), (1, .int v1), (3, .int v3)]) rfl (pc' := 28) rfl ?_
        exact mm_sub [1, 2, 0, 3] rfl (s_X1_painsOfCells_J28 (hr4 := hr4) h)
def f_X1_painsOfCells (fu : Nat) (q_painsOfCell : Nat → Int32) (v1 : Int32) : Option (Int32) := X1_painsOfCells_L4 fu q_painsOfCell v1 fu (0 : Int32) (0 : Int32)
set_option maxHeartbeats 4000000 in
set_option maxRecDepth 100000 in
theorem ok_X1_painsOfCells {fu : Nat} {q_pains : Int32} {q_windows : Nat → Int32} {q_shapes : Nat → Int32} {q_places_y : Int32} {q_places_boxes : Int32} {q_places_lastColumn : Int32} {q_places_lastTop : Int32} {q_places_columns : Nat → Int32} {q_deviations : Nat → Int32} {q_painsOfCell : Nat → Int32} {q_painsAt_0 : Nat → Int32} {q_painsAt_1 : Nat → Int32} {q_painsAt_2 : Nat → Int32} {q_shapeAt_0 : Nat → Int32} {q_shapeAt_1 : Nat → Int32} {q_shapeAt_2 : Nat → Int32} {u_wide : Int32} {u_high : Int32} {u_slackNow : Int32} {u_tenants : Int32} {u_letters : Int32} {u_readings : Int32} {u_kinds : Nat → Int32} {u_painOf : Nat → Int32} {u_payFor : Nat → Int32} {u_refused : Nat → Int32} {u_owned : Nat → Int64} {u_litIn : Nat → Int64} {u_shapes : Nat → Int32} {u_readAt : Nat → Int32} {u_meant : Nat → Int32} {u_readSo : Nat → Int32} {w_length : Int32} {w_bits : Int32} {w_letters : Nat → Int32} {r : Int32} {v1 : Int32} (h : f_X1_painsOfCells fu q_painsOfCell v1 = some r) : mm_Ok mX1_painsOfCells [.ref 0, .int v1] (W_X1_X5_X6 q_pains q_windows q_shapes q_places_y q_places_boxes q_places_lastColumn q_places_lastTop q_places_columns q_deviations q_painsOfCell q_painsAt_0 q_painsAt_1 q_painsAt_2 q_shapeAt_0 q_shapeAt_1 q_shapeAt_2 u_wide u_high u_slackNow u_tenants u_letters u_readings u_kinds u_painOf u_payFor u_refused u_owned u_litIn u_shapes u_readAt u_meant u_readSo w_length w_bits w_letters) (P_X1_painsOfCells q_pains q_windows q_shapes q_places_y q_places_boxes q_places_lastColumn q_places_lastTop q_places_columns q_deviations q_painsOfCell q_painsAt_0 q_painsAt_1 q_painsAt_2 q_shapeAt_0 q_shapeAt_1 q_shapeAt_2 u_wide u_high u_slackNow u_tenants u_letters u_readings u_kinds u_painOf u_payFor u_refused u_owned u_litIn u_shapes u_readAt u_meant u_readSo w_length w_bits w_letters r) := by
  rw [f_X1_painsOfCells] at h
  refine mm_Ok.of pn_X1 (l := [(0, .ref 0), (1, .int v1)]) rfl (Nat.le_of_ble_eq_true rfl) ?_
  refine mm_iconst dX1_painsOfCells_0 ki_0 (pc' := 1) rfl ?_
  refine mm_istore_n dX1_painsOfCells_1 rfl (by decide) (l' := [(2, .int (0 : Int32)), (0, .ref 0), (1, .int v1)]) rfl (pc' := 2) rfl ?_
  refine mm_iconst dX1_painsOfCells_2 ki_0 (pc' := 3) rfl ?_
  refine mm_istore_n dX1_painsOfCells_3 rfl (by decide) (l' := [(3, .int (0 : Int32)), (2, .int (0 : Int32)), (0, .ref 0), (1, .int v1)]) rfl (pc' := 4) rfl ?_
  exact mm_sub [2, 3, 1, 0] rfl (s_X1_painsOfCells_L4  _ _ _ h)

def P_X1_shapeBox (q_pains : Int32) (q_windows : Nat → Int32) (q_shapes : Nat → Int32) (q_places_y : Int32) (q_places_boxes : Int32) (q_places_lastColumn : Int32) (q_places_lastTop : Int32) (q_places_columns : Nat → Int32) (q_deviations : Nat → Int32) (u_wide : Int32) (u_high : Int32) (u_slackNow : Int32) (u_tenants : Int32) (u_letters : Int32) (u_readings : Int32) (u_kinds : Nat → Int32) (u_painOf : Nat → Int32) (u_payFor : Nat → Int32) (u_refused : Nat → Int32) (u_owned : Nat → Int64) (u_litIn : Nat → Int64) (u_shapes : Nat → Int32) (u_readAt : Nat → Int32) (u_meant : Nat → Int32) (u_readSo : Nat → Int32) (w_length : Int32) (w_bits : Int32) (w_letters : Nat → Int32) (r : (Nat → Int32) × (Nat → Int32) × (Nat → Int32) × (Nat → Int32) × (Nat → Int32) × (Nat → Int32) × (Nat → Int32)) : Option Value → mm_W → Prop := fun rv w => rv = none ∧ w = (W_X1_X5_X6 q_pains q_windows q_shapes q_places_y q_places_boxes q_places_lastColumn q_places_lastTop q_places_columns q_deviations r.1 r.2.1 r.2.2.1 r.2.2.2.1 r.2.2.2.2.1 r.2.2.2.2.2.1 r.2.2.2.2.2.2 u_wide u_high u_slackNow u_tenants u_letters u_readings u_kinds u_painOf u_payFor u_refused u_owned u_litIn u_shapes u_readAt u_meant u_readSo w_length w_bits w_letters)
def X1_shapeBox_J172 (fu : Nat)  (q_deviations : Nat → Int32) (q_painsOfCell : Nat → Int32) (q_painsAt_0 : Nat → Int32) (q_painsAt_1 : Nat → Int32) (q_painsAt_2 : Nat → Int32) (q_shapeAt_0 : Nat → Int32) (q_shapeAt_1 : Nat → Int32) (q_shapeAt_2 : Nat → Int32) (u_slackNow : Int32) (u_tenants : Int32) (u_letters : Int32) (u_kinds : Nat → Int32) (u_painOf : Nat → Int32) (u_owned : Nat → Int64) (u_litIn : Nat → Int64) (u_shapes : Nat → Int32) (v2 : Int32) (v4 : Int32) (v10 : Int32) (v11 : Int32)  : Option ((Nat → Int32) × (Nat → Int32) × (Nat → Int32) × (Nat → Int32) × (Nat → Int32) × (Nat → Int32) × (Nat → Int32)) := if v2 = (0 : Int32) then (mm_ck 60 v4 (if v2 = (0 : Int32) then (mm_ck 60 v4 (some (q_painsOfCell, upd q_painsAt_0 v4.toNatClampNeg v10, q_painsAt_1, q_painsAt_2, upd q_shapeAt_0 v4.toNatClampNeg v11, q_shapeAt_1, q_shapeAt_2))) else (if v2 = (1 : Int32) then (mm_ck 60 v4 (some (q_painsOfCell, upd q_painsAt_0 v4.toNatClampNeg v10, q_painsAt_1, q_painsAt_2, q_shapeAt_0, upd q_shapeAt_1 v4.toNatClampNeg v11, q_shapeAt_2))) else (if v2 = (2 : Int32) then (mm_ck 60 v4 (some (q_painsOfCell, upd q_painsAt_0 v4.toNatClampNeg v10, q_painsAt_1, q_painsAt_2, q_shapeAt_0, q_shapeAt_1, upd q_shapeAt_2 v4.toNatClampNeg v11))) else (none))))) else (if v2 = (1 : Int32) then (mm_ck 60 v4 (if v2 = (0 : Int32) then (mm_ck 60 v4 (some (q_painsOfCell, q_painsAt_0, upd q_painsAt_1 v4.toNatClampNeg v10, q_painsAt_2, upd q_shapeAt_0 v4.toNatClampNeg v11, q_shapeAt_1, q_shapeAt_2))) else (if v2 = (1 : Int32) then (mm_ck 60 v4 (some (q_painsOfCell, q_painsAt_0, upd q_painsAt_1 v4.toNatClampNeg v10, q_painsAt_2, q_shapeAt_0, upd q_shapeAt_1 v4.toNatClampNeg v11, q_shapeAt_2))) else (if v2 = (2 : Int32) then (mm_ck 60 v4 (some (q_painsOfCell, q_painsAt_0, upd q_painsAt_1 v4.toNatClampNeg v10, q_painsAt_2, q_shapeAt_0, q_shapeAt_1, upd q_shapeAt_2 v4.toNatClampNeg v11))) else (none))))) else (if v2 = (2 : Int32) then (mm_ck 60 v4 (if v2 = (0 : Int32) then (mm_ck 60 v4 (some (q_painsOfCell, q_painsAt_0, q_painsAt_1, upd q_painsAt_2 v4.toNatClampNeg v10, upd q_shapeAt_0 v4.toNatClampNeg v11, q_shapeAt_1, q_shapeAt_2))) else (if v2 = (1 : Int32) then (mm_ck 60 v4 (some (q_painsOfCell, q_painsAt_0, q_painsAt_1, upd q_painsAt_2 v4.toNatClampNeg v10, q_shapeAt_0, upd q_shapeAt_1 v4.toNatClampNeg v11, q_shapeAt_2))) else (if v2 = (2 : Int32) then (mm_ck 60 v4 (some (q_painsOfCell, q_painsAt_0, q_painsAt_1, upd q_painsAt_2 v4.toNatClampNeg v10, q_shapeAt_0, q_shapeAt_1, upd q_shapeAt_2 v4.toNatClampNeg v11))) else (none))))) else (none)))
set_option maxHeartbeats 4000000 in
set_option maxRecDepth 100000 in
theorem s_X1_shapeBox_J172 {fu : Nat} {q_pains : Int32} {q_windows : Nat → Int32} {q_shapes : Nat → Int32} {q_places_y : Int32} {q_places_boxes : Int32} {q_places_lastColumn : Int32} {q_places_lastTop : Int32} {q_places_columns : Nat → Int32} {q_deviations : Nat → Int32} {q_painsOfCell : Nat → Int32} {q_painsAt_0 : Nat → Int32} {q_painsAt_1 : Nat → Int32} {q_painsAt_2 : Nat → Int32} {q_shapeAt_0 : Nat → Int32} {q_shapeAt_1 : Nat → Int32} {q_shapeAt_2 : Nat → Int32} {u_wide : Int32} {u_high : Int32} {u_slackNow : Int32} {u_tenants : Int32} {u_letters : Int32} {u_readings : Int32} {u_kinds : Nat → Int32} {u_painOf : Nat → Int32} {u_payFor : Nat → Int32} {u_refused : Nat → Int32} {u_owned : Nat → Int64} {u_litIn : Nat → Int64} {u_shapes : Nat → Int32} {u_readAt : Nat → Int32} {u_meant : Nat → Int32} {u_readSo : Nat → Int32} {w_length : Int32} {w_bits : Int32} {w_letters : Nat → Int32} {r : (Nat → Int32) × (Nat → Int32) × (Nat → Int32) × (Nat → Int32) × (Nat → Int32) × (Nat → Int32) × (Nat → Int32)} {v2 : Int32} {v4 : Int32} {v10 : Int32} {v11 : Int32} (h : X1_shapeBox_J172 fu q_deviations q_painsOfCell q_painsAt_0 q_painsAt_1 q_painsAt_2 q_shapeAt_0 q_shapeAt_1 q_shapeAt_2 u_slackNow u_tenants u_letters u_kinds u_painOf u_owned u_litIn u_shapes v2 v4 v10 v11 = some r) : mm_Wp mX1_shapeBox (mm_R (P_X1_shapeBox q_pains q_windows q_shapes q_places_y q_places_boxes q_places_lastColumn q_places_lastTop q_places_columns q_deviations u_wide u_high u_slackNow u_tenants u_letters u_readings u_kinds u_painOf u_payFor u_refused u_owned u_litIn u_shapes u_readAt u_meant u_readSo w_length w_bits w_letters r)) 0 0 172 [(0, .ref 0), (2, .int v2), (4, .int v4), (10, .int v10), (11, .int v11)] [] (W_X1_X5_X6 q_pains q_windows q_shapes q_places_y q_places_boxes q_places_lastColumn q_places_lastTop q_places_columns q_deviations q_painsOfCell q_painsAt_0 q_painsAt_1 q_painsAt_2 q_shapeAt_0 q_shapeAt_1 q_shapeAt_2 u_wide u_high u_slackNow u_tenants u_letters u_readings u_kinds u_painOf u_payFor u_refused u_owned u_litIn u_shapes u_readAt u_meant u_readSo w_length w_bits w_letters) := by
  rw [X1_shapeBox_J172] at h
  refine mm_aload_n 0 dX1_shapeBox_172 rfl rfl (pc' := 173) rfl ?_
  refine mm_getf fG_X1_37 dX1_shapeBox_173 rfl rfl (pc' := 176) rfl ?_
  refine mm_iload_n 1 dX1_shapeBox_176 rfl rfl (pc' := 177) rfl ?_
  by_cases c0 : v2 = (0 : Int32)
  · replace h := mm_it h c0
    refine mm_aaldK (b := 8) (0 : Int32) c0 dX1_shapeBox_177 rfl ki_0_3 (congrArg (fun j => some (8 + j)) kt_0) (pc' := 178) rfl ?_
    clear c0
    refine mm_iload 2 dX1_shapeBox_178 rfl (pc' := 180) rfl ?_
    refine mm_iload 3 dX1_shapeBox_180 rfl (pc' := 182) rfl ?_
    obtain ⟨c182, h⟩ := mm_ck_of h
    refine mm_iast dX1_shapeBox_182 rfl c182 rfl (ws' := (W_X1_X5_X6 q_pains q_windows q_shapes q_places_y q_places_boxes q_places_lastColumn q_places_lastTop q_places_columns q_deviations q_painsOfCell (upd q_painsAt_0 v4.toNatClampNeg v10) q_painsAt_1 q_painsAt_2 q_shapeAt_0 q_shapeAt_1 q_shapeAt_2 u_wide u_high u_slackNow u_tenants u_letters u_readings u_kinds u_painOf u_payFor u_refused u_owned u_litIn u_shapes u_readAt u_meant u_readSo w_length w_bits w_letters)) rfl (pc' := 183) rfl ?_
    clear c182
    refine mm_aload_n 0 dX1_shapeBox_183 rfl rfl (pc' := 184) rfl ?_
    refine mm_getf fG_X1_40 dX1_shapeBox_184 rfl rfl (pc' := 187) rfl ?_
    refine mm_iload_n 1 dX1_shapeBox_187 rfl rfl (pc' := 188) rfl ?_
    by_cases c0 : v2 = (0 : Int32)
    · replace h := mm_it h c0
      refine mm_aaldK (b := 12) (0 : Int32) c0 dX1_shapeBox_188 rfl ki_0_3 (congrArg (fun j => some (12 + j)) kt_0) (pc' := 189) rfl ?_
      clear c0
      refine mm_iload 2 dX1_shapeBox_189 rfl (pc' := 191) rfl ?_
      refine mm_iload 4 dX1_shapeBox_191 rfl (pc' := 193) rfl ?_
      obtain ⟨c193, h⟩ := mm_ck_of h
      refine mm_iast dX1_shapeBox_193 rfl c193 rfl (ws' := (W_X1_X5_X6 q_pains q_windows q_shapes q_places_y q_places_boxes q_places_lastColumn q_places_lastTop q_places_columns q_deviations q_painsOfCell (upd q_painsAt_0 v4.toNatClampNeg v10) q_painsAt_1 q_painsAt_2 (upd q_shapeAt_0 v4.toNatClampNeg v11) q_shapeAt_1 q_shapeAt_2 u_wide u_high u_slackNow u_tenants u_letters u_readings u_kinds u_painOf u_payFor u_refused u_owned u_litIn u_shapes u_readAt u_meant u_readSo w_length w_bits w_letters)) rfl (pc' := 194) rfl ?_
      clear c193
      have h9 := Option.some.inj h
      subst h9
      exact mm_vret rfl dX1_shapeBox_194 ⟨rfl, rfl⟩
    replace h := mm_if h c0
    by_cases c1 : v2 = (1 : Int32)
    · replace h := mm_it h c1
      refine mm_aaldK (b := 13) (1 : Int32) c1 dX1_shapeBox_188 rfl ki_1_3 (congrArg (fun j => some (12 + j)) kt_1) (pc' := 189) rfl ?_
      clear c0 c1
      refine mm_iload 2 dX1_shapeBox_189 rfl (pc' := 191) rfl ?_
      refine mm_iload 4 dX1_shapeBox_191 rfl (pc' := 193) rfl ?_
      obtain ⟨c193, h⟩ := mm_ck_of h
      refine mm_iast dX1_shapeBox_193 rfl c193 rfl (ws' := (W_X1_X5_X6 q_pains q_windows q_shapes q_places_y q_places_boxes q_places_lastColumn q_places_lastTop q_places_columns q_deviations q_painsOfCell (upd q_painsAt_0 v4.toNatClampNeg v10) q_painsAt_1 q_painsAt_2 q_shapeAt_0 (upd q_shapeAt_1 v4.toNatClampNeg v11) q_shapeAt_2 u_wide u_high u_slackNow u_tenants u_letters u_readings u_kinds u_painOf u_payFor u_refused u_owned u_litIn u_shapes u_readAt u_meant u_readSo w_length w_bits w_letters)) rfl (pc' := 194) rfl ?_
      clear c193
      have h9 := Option.some.inj h
      subst h9
      exact mm_vret rfl dX1_shapeBox_194 ⟨rfl, rfl⟩
    replace h := mm_if h c1
    by_cases c2 : v2 = (2 : Int32)
    · replace h := mm_it h c2
      refine mm_aaldK (b := 14) (2 : Int32) c2 dX1_shapeBox_188 rfl ki_2_3 (congrArg (fun j => some (12 + j)) kt_2) (pc' := 189) rfl ?_
      clear c0 c1 c2
      refine mm_iload 2 dX1_shapeBox_189 rfl (pc' := 191) rfl ?_
      refine mm_iload 4 dX1_shapeBox_191 rfl (pc' := 193) rfl ?_
      obtain ⟨c193, h⟩ := mm_ck_of h
      refine mm_iast dX1_shapeBox_193 rfl c193 rfl (ws' := (W_X1_X5_X6 q_pains q_windows q_shapes q_places_y q_places_boxes q_places_lastColumn q_places_lastTop q_places_columns q_deviations q_painsOfCell (upd q_painsAt_0 v4.toNatClampNeg v10) q_painsAt_1 q_painsAt_2 q_shapeAt_0 q_shapeAt_1 (upd q_shapeAt_2 v4.toNatClampNeg v11) u_wide u_high u_slackNow u_tenants u_letters u_readings u_kinds u_painOf u_payFor u_refused u_owned u_litIn u_shapes u_readAt u_meant u_readSo w_length w_bits w_letters)) rfl (pc' := 194) rfl ?_
      clear c193
      have h9 := Option.some.inj h
      subst h9
      exact mm_vret rfl dX1_shapeBox_194 ⟨rfl, rfl⟩
    replace h := mm_if h c2
    cases h
  replace h := mm_if h c0
  by_cases c1 : v2 = (1 : Int32)
  · replace h := mm_it h c1
    refine mm_aaldK (b := 9) (1 : Int32) c1 dX1_shapeBox_177 rfl ki_1_3 (congrArg (fun j => some (8 + j)) kt_1) (pc' := 178) rfl ?_
    clear c0 c1
    refine mm_iload 2 dX1_shapeBox_178 rfl (pc' := 180) rfl ?_
    refine mm_iload 3 dX1_shapeBox_180 rfl (pc' := 182) rfl ?_
    obtain ⟨c182, h⟩ := mm_ck_of h
    refine mm_iast dX1_shapeBox_182 rfl c182 rfl (ws' := (W_X1_X5_X6 q_pains q_windows q_shapes q_places_y q_places_boxes q_places_lastColumn q_places_lastTop q_places_columns q_deviations q_painsOfCell q_painsAt_0 (upd q_painsAt_1 v4.toNatClampNeg v10) q_painsAt_2 q_shapeAt_0 q_shapeAt_1 q_shapeAt_2 u_wide u_high u_slackNow u_tenants u_letters u_readings u_kinds u_painOf u_payFor u_refused u_owned u_litIn u_shapes u_readAt u_meant u_readSo w_length w_bits w_letters)) rfl (pc' := 183) rfl ?_
    clear c182
    refine mm_aload_n 0 dX1_shapeBox_183 rfl rfl (pc' := 184) rfl ?_
    refine mm_getf fG_X1_40 dX1_shapeBox_184 rfl rfl (pc' := 187) rfl ?_
    refine mm_iload_n 1 dX1_shapeBox_187 rfl rfl (pc' := 188) rfl ?_
    by_cases c0 : v2 = (0 : Int32)
    · replace h := mm_it h c0
      refine mm_aaldK (b := 12) (0 : Int32) c0 dX1_shapeBox_188 rfl ki_0_3 (congrArg (fun j => some (12 + j)) kt_0) (pc' := 189) rfl ?_
      clear c0
      refine mm_iload 2 dX1_shapeBox_189 rfl (pc' := 191) rfl ?_
      refine mm_iload 4 dX1_shapeBox_191 rfl (pc' := 193) rfl ?_
      obtain ⟨c193, h⟩ := mm_ck_of h
      refine mm_iast dX1_shapeBox_193 rfl c193 rfl (ws' := (W_X1_X5_X6 q_pains q_windows q_shapes q_places_y q_places_boxes q_places_lastColumn q_places_lastTop q_places_columns q_deviations q_painsOfCell q_painsAt_0 (upd q_painsAt_1 v4.toNatClampNeg v10) q_painsAt_2 (upd q_shapeAt_0 v4.toNatClampNeg v11) q_shapeAt_1 q_shapeAt_2 u_wide u_high u_slackNow u_tenants u_letters u_readings u_kinds u_painOf u_payFor u_refused u_owned u_litIn u_shapes u_readAt u_meant u_readSo w_length w_bits w_letters)) rfl (pc' := 194) rfl ?_
      clear c193
      have h9 := Option.some.inj h
      subst h9
      exact mm_vret rfl dX1_shapeBox_194 ⟨rfl, rfl⟩
    replace h := mm_if h c0
    by_cases c1 : v2 = (1 : Int32)
    · replace h := mm_it h c1
      refine mm_aaldK (b := 13) (1 : Int32) c1 dX1_shapeBox_188 rfl ki_1_3 (congrArg (fun j => some (12 + j)) kt_1) (pc' := 189) rfl ?_
      clear c0 c1
      refine mm_iload 2 dX1_shapeBox_189 rfl (pc' := 191) rfl ?_
      refine mm_iload 4 dX1_shapeBox_191 rfl (pc' := 193) rfl ?_
      obtain ⟨c193, h⟩ := mm_ck_of h
      refine mm_iast dX1_shapeBox_193 rfl c193 rfl (ws' := (W_X1_X5_X6 q_pains q_windows q_shapes q_places_y q_places_boxes q_places_lastColumn q_places_lastTop q_places_columns q_deviations q_painsOfCell q_painsAt_0 (upd q_painsAt_1 v4.toNatClampNeg v10) q_painsAt_2 q_shapeAt_0 (upd q_shapeAt_1 v4.toNatClampNeg v11) q_shapeAt_2 u_wide u_high u_slackNow u_tenants u_letters u_readings u_kinds u_painOf u_payFor u_refused u_owned u_litIn u_shapes u_readAt u_meant u_readSo w_length w_bits w_letters)) rfl (pc' := 194) rfl ?_
      clear c193
      have h9 := Option.some.inj h
      subst h9
      exact mm_vret rfl dX1_shapeBox_194 ⟨rfl, rfl⟩
    replace h := mm_if h c1
    by_cases c2 : v2 = (2 : Int32)
    · replace h := mm_it h c2
      refine mm_aaldK (b := 14) (2 : Int32) c2 dX1_shapeBox_188 rfl ki_2_3 (congrArg (fun j => some (12 + j)) kt_2) (pc' := 189) rfl ?_
      clear c0 c1 c2
      refine mm_iload 2 dX1_shapeBox_189 rfl (pc' := 191) rfl ?_
      refine mm_iload 4 dX1_shapeBox_191 rfl (pc' := 193) rfl ?_
      obtain ⟨c193, h⟩ := mm_ck_of h
      refine mm_iast dX1_shapeBox_193 rfl c193 rfl (ws' := (W_X1_X5_X6 q_pains q_windows q_shapes q_places_y q_places_boxes q_places_lastColumn q_places_lastTop q_places_columns q_deviations q_painsOfCell q_painsAt_0 (upd q_painsAt_1 v4.toNatClampNeg v10) q_painsAt_2 q_shapeAt_0 q_shapeAt_1 (upd q_shapeAt_2 v4.toNatClampNeg v11) u_wide u_high u_slackNow u_tenants u_letters u_readings u_kinds u_painOf u_payFor u_refused u_owned u_litIn u_shapes u_readAt u_meant u_readSo w_length w_bits w_letters)) rfl (pc' := 194) rfl ?_
      clear c193
      have h9 := Option.some.inj h
      subst h9
      exact mm_vret rfl dX1_shapeBox_194 ⟨rfl, rfl⟩
    replace h := mm_if h c2
    cases h
  replace h := mm_if h c1
  by_cases c2 : v2 = (2 : Int32)
  · replace h := mm_it h c2
    refine mm_aaldK (b := 10) (2 : Int32) c2 dX1_shapeBox_177 rfl ki_2_3 (congrArg (fun j => some (8 + j)) kt_2) (pc' := 178) rfl ?_
    clear c0 c1 c2
    refine mm_iload 2 dX1_shapeBox_178 rfl (pc' := 180) rfl ?_
    refine mm_iload 3 dX1_shapeBox_180 rfl (pc' := 182) rfl ?_
    obtain ⟨c182, h⟩ := mm_ck_of h
    refine mm_iast dX1_shapeBox_182 rfl c182 rfl (ws' := (W_X1_X5_X6 q_pains q_windows q_shapes q_places_y q_places_boxes q_places_lastColumn q_places_lastTop q_places_columns q_deviations q_painsOfCell q_painsAt_0 q_painsAt_1 (upd q_painsAt_2 v4.toNatClampNeg v10) q_shapeAt_0 q_shapeAt_1 q_shapeAt_2 u_wide u_high u_slackNow u_tenants u_letters u_readings u_kinds u_painOf u_payFor u_refused u_owned u_litIn u_shapes u_readAt u_meant u_readSo w_length w_bits w_letters)) rfl (pc' := 183) rfl ?_
    clear c182
    refine mm_aload_n 0 dX1_shapeBox_183 rfl rfl (pc' := 184) rfl ?_
    refine mm_getf fG_X1_40 dX1_shapeBox_184 rfl rfl (pc' := 187) rfl ?_
    refine mm_iload_n 1 dX1_shapeBox_187 rfl rfl (pc' := 188) rfl ?_
    by_cases c0 : v2 = (0 : Int32)
    · replace h := mm_it h c0
      refine mm_aaldK (b := 12) (0 : Int32) c0 dX1_shapeBox_188 rfl ki_0_3 (congrArg (fun j => some (12 + j)) kt_0) (pc' := 189) rfl ?_
      clear c0
      refine mm_iload 2 dX1_shapeBox_189 rfl (pc' := 191) rfl ?_
      refine mm_iload 4 dX1_shapeBox_191 rfl (pc' := 193) rfl ?_
      obtain ⟨c193, h⟩ := mm_ck_of h
      refine mm_iast dX1_shapeBox_193 rfl c193 rfl (ws' := (W_X1_X5_X6 q_pains q_windows q_shapes q_places_y q_places_boxes q_places_lastColumn q_places_lastTop q_places_columns q_deviations q_painsOfCell q_painsAt_0 q_painsAt_1 (upd q_painsAt_2 v4.toNatClampNeg v10) (upd q_shapeAt_0 v4.toNatClampNeg v11) q_shapeAt_1 q_shapeAt_2 u_wide u_high u_slackNow u_tenants u_letters u_readings u_kinds u_painOf u_payFor u_refused u_owned u_litIn u_shapes u_readAt u_meant u_readSo w_length w_bits w_letters)) rfl (pc' := 194) rfl ?_
      clear c193
      have h9 := Option.some.inj h
      subst h9
      exact mm_vret rfl dX1_shapeBox_194 ⟨rfl, rfl⟩
    replace h := mm_if h c0
    by_cases c1 : v2 = (1 : Int32)
    · replace h := mm_it h c1
      refine mm_aaldK (b := 13) (1 : Int32) c1 dX1_shapeBox_188 rfl ki_1_3 (congrArg (fun j => some (12 + j)) kt_1) (pc' := 189) rfl ?_
      clear c0 c1
      refine mm_iload 2 dX1_shapeBox_189 rfl (pc' := 191) rfl ?_
      refine mm_iload 4 dX1_shapeBox_191 rfl (pc' := 193) rfl ?_
      obtain ⟨c193, h⟩ := mm_ck_of h
      refine mm_iast dX1_shapeBox_193 rfl c193 rfl (ws' := (W_X1_X5_X6 q_pains q_windows q_shapes q_places_y q_places_boxes q_places_lastColumn q_places_lastTop q_places_columns q_deviations q_painsOfCell q_painsAt_0 q_painsAt_1 (upd q_painsAt_2 v4.toNatClampNeg v10) q_shapeAt_0 (upd q_shapeAt_1 v4.toNatClampNeg v11) q_shapeAt_2 u_wide u_high u_slackNow u_tenants u_letters u_readings u_kinds u_painOf u_payFor u_refused u_owned u_litIn u_shapes u_readAt u_meant u_readSo w_length w_bits w_letters)) rfl (pc' := 194) rfl ?_
      clear c193
      have h9 := Option.some.inj h
      subst h9
      exact mm_vret rfl dX1_shapeBox_194 ⟨rfl, rfl⟩
    replace h := mm_if h c1
    by_cases c2 : v2 = (2 : Int32)
    · replace h := mm_it h c2
      refine mm_aaldK (b := 14) (2 : Int32) c2 dX1_shapeBox_188 rfl ki_2_3 (congrArg (fun j => some (12 + j)) kt_2) (pc' := 189) rfl ?_
      clear c0 c1 c2
      refine mm_iload 2 dX1_shapeBox_189 rfl (pc' := 191) rfl ?_
      refine mm_iload 4 dX1_shapeBox_191 rfl (pc' := 193) rfl ?_
      obtain ⟨c193, h⟩ := mm_ck_of h
      refine mm_iast dX1_shapeBox_193 rfl c193 rfl (ws' := (W_X1_X5_X6 q_pains q_windows q_shapes q_places_y q_places_boxes q_places_lastColumn q_places_lastTop q_places_columns q_deviations q_painsOfCell q_painsAt_0 q_painsAt_1 (upd q_painsAt_2 v4.toNatClampNeg v10) q_shapeAt_0 q_shapeAt_1 (upd q_shapeAt_2 v4.toNatClampNeg v11) u_wide u_high u_slackNow u_tenants u_letters u_readings u_kinds u_painOf u_payFor u_refused u_owned u_litIn u_shapes u_readAt u_meant u_readSo w_length w_bits w_letters)) rfl (pc' := 194) rfl ?_
      clear c193
      have h9 := Option.some.inj h
      subst h9
      exact mm_vret rfl dX1_shapeBox_194 ⟨rfl, rfl⟩
    replace h := mm_if h c2
    cases h
  replace h := mm_if h c2
  cases h
def X1_shapeBox_J166 (fu : Nat) (rec48 : Int32 → Int32 → Int32 → Option ((Nat → Int32) × (Nat → Int32) × (Nat → Int32) × (Nat → Int32) × (Nat → Int32) × (Nat → Int32) × (Nat → Int32))) (q_deviations : Nat → Int32) (q_painsOfCell : Nat → Int32) (q_painsAt_0 : Nat → Int32) (q_painsAt_1 : Nat → Int32) (q_painsAt_2 : Nat → Int32) (q_shapeAt_0 : Nat → Int32) (q_shapeAt_1 : Nat → Int32) (q_shapeAt_2 : Nat → Int32) (u_slackNow : Int32) (u_tenants : Int32) (u_letters : Int32) (u_kinds : Nat → Int32) (u_painOf : Nat → Int32) (u_owned : Nat → Int64) (u_litIn : Nat → Int64) (u_shapes : Nat → Int32) (v2 : Int32) (v3 : Int32) (v4 : Int32) (v8 : Int32) (v9 : Int32) (v10 : Int32) (v11 : Int32) (v12 : Int32)  : Option ((Nat → Int32) × (Nat → Int32) × (Nat → Int32) × (Nat → Int32) × (Nat → Int32) × (Nat → Int32) × (Nat → Int32)) := rec48 v10 v11 (v12 + (1 : Int32))
set_option maxHeartbeats 4000000 in
set_option maxRecDepth 100000 in
theorem s_X1_shapeBox_J166 {fu : Nat} {q_pains : Int32} {q_windows : Nat → Int32} {q_shapes : Nat → Int32} {q_places_y : Int32} {q_places_boxes : Int32} {q_places_lastColumn : Int32} {q_places_lastTop : Int32} {q_places_columns : Nat → Int32} {q_deviations : Nat → Int32} {q_painsOfCell : Nat → Int32} {q_painsAt_0 : Nat → Int32} {q_painsAt_1 : Nat → Int32} {q_painsAt_2 : Nat → Int32} {q_shapeAt_0 : Nat → Int32} {q_shapeAt_1 : Nat → Int32} {q_shapeAt_2 : Nat → Int32} {u_wide : Int32} {u_high : Int32} {u_slackNow : Int32} {u_tenants : Int32} {u_letters : Int32} {u_readings : Int32} {u_kinds : Nat → Int32} {u_painOf : Nat → Int32} {u_payFor : Nat → Int32} {u_refused : Nat → Int32} {u_owned : Nat → Int64} {u_litIn : Nat → Int64} {u_shapes : Nat → Int32} {u_readAt : Nat → Int32} {u_meant : Nat → Int32} {u_readSo : Nat → Int32} {w_length : Int32} {w_bits : Int32} {w_letters : Nat → Int32} {r : (Nat → Int32) × (Nat → Int32) × (Nat → Int32) × (Nat → Int32) × (Nat → Int32) × (Nat → Int32) × (Nat → Int32)} {rec48 : Int32 → Int32 → Int32 → Option ((Nat → Int32) × (Nat → Int32) × (Nat → Int32) × (Nat → Int32) × (Nat → Int32) × (Nat → Int32) × (Nat → Int32))} {v2 : Int32} {v3 : Int32} {v4 : Int32} {v8 : Int32} {v9 : Int32} {v10 : Int32} {v11 : Int32} {v12 : Int32} (hr48 : ∀ (y10 : Int32) (y11 : Int32) (y12 : Int32), rec48 y10 y11 y12 = some r → mm_Wp mX1_shapeBox (mm_R (P_X1_shapeBox q_pains q_windows q_shapes q_places_y q_places_boxes q_places_lastColumn q_places_lastTop q_places_columns q_deviations u_wide u_high u_slackNow u_tenants u_letters u_readings u_kinds u_painOf u_payFor u_refused u_owned u_litIn u_shapes u_readAt u_meant u_readSo w_length w_bits w_letters r)) 0 0 48 [(0, .ref 0), (1, .ref 15), (2, .int v2), (3, .int v3), (4, .int v4), (8, .int v8), (9, .int v9), (10, .int y10), (11, .int y11), (12, .int y12)] [] (W_X1_X5_X6 q_pains q_windows q_shapes q_places_y q_places_boxes q_places_lastColumn q_places_lastTop q_places_columns q_deviations q_painsOfCell q_painsAt_0 q_painsAt_1 q_painsAt_2 q_shapeAt_0 q_shapeAt_1 q_shapeAt_2 u_wide u_high u_slackNow u_tenants u_letters u_readings u_kinds u_painOf u_payFor u_refused u_owned u_litIn u_shapes u_readAt u_meant u_readSo w_length w_bits w_letters)) (h : X1_shapeBox_J166 fu rec48 q_deviations q_painsOfCell q_painsAt_0 q_painsAt_1 q_painsAt_2 q_shapeAt_0 q_shapeAt_1 q_shapeAt_2 u_slackNow u_tenants u_letters u_kinds u_painOf u_owned u_litIn u_shapes v2 v3 v4 v8 v9 v10 v11 v12 = some r) : mm_Wp mX1_shapeBox (mm_R (P_X1_shapeBox q_pains q_windows q_shapes q_places_y q_places_boxes q_places_lastColumn q_places_lastTop q_places_columns q_deviations u_wide u_high u_slackNow u_tenants u_letters u_readings u_kinds u_painOf u_payFor u_refused u_owned u_litIn u_shapes u_readAt u_meant u_readSo w_length w_bits w_letters r)) 0 0 166 [(0, .ref 0), (1, .ref 15), (2, .int v2), (3, .int v3), (4, .int v4), (8, .int v8), (9, .int v9), (10, .int v10), (11, .int v11), (12, .int v12)] [] (W_X1_X5_X6 q_pains q_windows q_shapes q_places_y q_places_boxes q_places_lastColumn q_places_lastTop q_places_columns q_deviations q_painsOfCell q_painsAt_0 q_painsAt_1 q_painsAt_2 q_shapeAt_0 q_shapeAt_1 q_shapeAt_2 u_wide u_high u_slackNow u_tenants u_letters u_readings u_kinds u_painOf u_payFor u_refused u_owned u_litIn u_shapes u_readAt u_meant u_readSo w_length w_bits w_letters) := by
  rw [X1_shapeBox_J166] at h
  refine mm_iinc 9 dX1_shapeBox_166 rfl ki_1 (by decide) (l' := [(12, .int (v12 + (1 : Int32))), (0, .ref 0), (1, .ref 15), (2, .int v2), (3, .int v3), (4, .int v4), (8, .int v8), (9, .int v9), (10, .int v10), (11, .int v11)]) rfl (pc' := 169) rfl ?_
  refine mm_goto (tgt := 48) dX1_shapeBox_169 (by decide) ?_
  exact mm_sub [1, 2, 3, 4, 5, 6, 7, 8, 9, 0] rfl (hr48 _ _ _ h)
def X1_shapeBox_J141 (fu : Nat) (rec48 : Int32 → Int32 → Int32 → Option ((Nat → Int32) × (Nat → Int32) × (Nat → Int32) × (Nat → Int32) × (Nat → Int32) × (Nat → Int32) × (Nat → Int32))) (q_deviations : Nat → Int32) (q_painsOfCell : Nat → Int32) (q_painsAt_0 : Nat → Int32) (q_painsAt_1 : Nat → Int32) (q_painsAt_2 : Nat → Int32) (q_shapeAt_0 : Nat → Int32) (q_shapeAt_1 : Nat → Int32) (q_shapeAt_2 : Nat → Int32) (u_slackNow : Int32) (u_tenants : Int32) (u_letters : Int32) (u_kinds : Nat → Int32) (u_painOf : Nat → Int32) (u_owned : Nat → Int64) (u_litIn : Nat → Int64) (u_shapes : Nat → Int32) (v2 : Int32) (v3 : Int32) (v4 : Int32) (v8 : Int32) (v9 : Int32) (v10 : Int32) (v11 : Int32) (v12 : Int32) (v13 : Int32) (v15 : Int32) (s0 : Int32) : Option ((Nat → Int32) × (Nat → Int32) × (Nat → Int32) × (Nat → Int32) × (Nat → Int32) × (Nat → Int32) × (Nat → Int32)) := if s0 = 0 then (X1_shapeBox_J166 fu rec48 q_deviations q_painsOfCell q_painsAt_0 q_painsAt_1 q_painsAt_2 q_shapeAt_0 q_shapeAt_1 q_shapeAt_2 u_slackNow u_tenants u_letters u_kinds u_painOf u_owned u_litIn u_shapes v2 v3 v4 v8 v9 v10 v11 v12) else ((f_X5_readAs fu u_slackNow u_letters u_shapes v13).bind fun t151 => if t151 = v3 then (X1_shapeBox_J166 fu rec48 q_deviations q_painsOfCell q_painsAt_0 q_painsAt_1 q_painsAt_2 q_shapeAt_0 q_shapeAt_1 q_shapeAt_2 u_slackNow u_tenants u_letters u_kinds u_painOf u_owned u_litIn u_shapes v2 v3 v4 v8 v9 v15 v13 v12) else (X1_shapeBox_J166 fu rec48 q_deviations q_painsOfCell q_painsAt_0 q_painsAt_1 q_painsAt_2 q_shapeAt_0 q_shapeAt_1 q_shapeAt_2 u_slackNow u_tenants u_letters u_kinds u_painOf u_owned u_litIn u_shapes v2 v3 v4 v8 v9 v10 v11 v12))
set_option maxHeartbeats 4000000 in
set_option maxRecDepth 100000 in
theorem s_X1_shapeBox_J141 {fu : Nat} {q_pains : Int32} {q_windows : Nat → Int32} {q_shapes : Nat → Int32} {q_places_y : Int32} {q_places_boxes : Int32} {q_places_lastColumn : Int32} {q_places_lastTop : Int32} {q_places_columns : Nat → Int32} {q_deviations : Nat → Int32} {q_painsOfCell : Nat → Int32} {q_painsAt_0 : Nat → Int32} {q_painsAt_1 : Nat → Int32} {q_painsAt_2 : Nat → Int32} {q_shapeAt_0 : Nat → Int32} {q_shapeAt_1 : Nat → Int32} {q_shapeAt_2 : Nat → Int32} {u_wide : Int32} {u_high : Int32} {u_slackNow : Int32} {u_tenants : Int32} {u_letters : Int32} {u_readings : Int32} {u_kinds : Nat → Int32} {u_painOf : Nat → Int32} {u_payFor : Nat → Int32} {u_refused : Nat → Int32} {u_owned : Nat → Int64} {u_litIn : Nat → Int64} {u_shapes : Nat → Int32} {u_readAt : Nat → Int32} {u_meant : Nat → Int32} {u_readSo : Nat → Int32} {w_length : Int32} {w_bits : Int32} {w_letters : Nat → Int32} {r : (Nat → Int32) × (Nat → Int32) × (Nat → Int32) × (Nat → Int32) × (Nat → Int32) × (Nat → Int32) × (Nat → Int32)} {rec48 : Int32 → Int32 → Int32 → Option ((Nat → Int32) × (Nat → Int32) × (Nat → Int32) × (Nat → Int32) × (Nat → Int32) × (Nat → Int32) × (Nat → Int32))} {v2 : Int32} {v3 : Int32} {v4 : Int32} {v8 : Int32} {v9 : Int32} {v10 : Int32} {v11 : Int32} {v12 : Int32} {v13 : Int32} {v15 : Int32} {s0 : Int32} (hr48 : ∀ (y10 : Int32) (y11 : Int32) (y12 : Int32), rec48 y10 y11 y12 = some r → mm_Wp mX1_shapeBox (mm_R (P_X1_shapeBox q_pains q_windows q_shapes q_places_y q_places_boxes q_places_lastColumn q_places_lastTop q_places_columns q_deviations u_wide u_high u_slackNow u_tenants u_letters u_readings u_kinds u_painOf u_payFor u_refused u_owned u_litIn u_shapes u_readAt u_meant u_readSo w_length w_bits w_letters r)) 0 0 48 [(0, .ref 0), (1, .ref 15), (2, .int v2), (3, .int v3), (4, .int v4), (8, .int v8), (9, .int v9), (10, .int y10), (11, .int y11), (12, .int y12)] [] (W_X1_X5_X6 q_pains q_windows q_shapes q_places_y q_places_boxes q_places_lastColumn q_places_lastTop q_places_columns q_deviations q_painsOfCell q_painsAt_0 q_painsAt_1 q_painsAt_2 q_shapeAt_0 q_shapeAt_1 q_shapeAt_2 u_wide u_high u_slackNow u_tenants u_letters u_readings u_kinds u_painOf u_payFor u_refused u_owned u_litIn u_shapes u_readAt u_meant u_readSo w_length w_bits w_letters)) (h : X1_shapeBox_J141 fu rec48 q_deviations q_painsOfCell q_painsAt_0 q_painsAt_1 q_painsAt_2 q_shapeAt_0 q_shapeAt_1 q_shapeAt_2 u_slackNow u_tenants u_letters u_kinds u_painOf u_owned u_litIn u_shapes v2 v3 v4 v8 v9 v10 v11 v12 v13 v15 s0 = some r) : mm_Wp mX1_shapeBox (mm_R (P_X1_shapeBox q_pains q_windows q_shapes q_places_y q_places_boxes q_places_lastColumn q_places_lastTop q_places_columns q_deviations u_wide u_high u_slackNow u_tenants u_letters u_readings u_kinds u_painOf u_payFor u_refused u_owned u_litIn u_shapes u_readAt u_meant u_readSo w_length w_bits w_letters r)) 0 0 141 [(0, .ref 0), (1, .ref 15), (2, .int v2), (3, .int v3), (4, .int v4), (8, .int v8), (9, .int v9), (10, .int v10), (11, .int v11), (12, .int v12), (13, .int v13), (15, .int v15)] [.int s0] (W_X1_X5_X6 q_pains q_windows q_shapes q_places_y q_places_boxes q_places_lastColumn q_places_lastTop q_places_columns q_deviations q_painsOfCell q_painsAt_0 q_painsAt_1 q_painsAt_2 q_shapeAt_0 q_shapeAt_1 q_shapeAt_2 u_wide u_high u_slackNow u_tenants u_letters u_readings u_kinds u_painOf u_payFor u_refused u_owned u_litIn u_shapes u_readAt u_meant u_readSo w_length w_bits w_letters) := by
  rw [X1_shapeBox_J141] at h
  refine mm_istore dX1_shapeBox_141 (by decide) (l' := [(16, .int s0), (0, .ref 0), (1, .ref 15), (2, .int v2), (3, .int v3), (4, .int v4), (8, .int v8), (9, .int v9), (10, .int v10), (11, .int v11), (12, .int v12), (13, .int v13), (15, .int v15)]) rfl (pc' := 143) rfl ?_
  refine mm_iload 0 dX1_shapeBox_143 rfl (pc' := 145) rfl ?_
  refine mm_if_eq (tgt := 166) dX1_shapeBox_145 (by decide) (pc' := 148) rfl (fun c => ?_) (fun c => ?_)
  · replace h := mm_it h c
    clear c
    exact mm_sub [1, 2, 3, 4, 5, 6, 7, 8, 9, 10] rfl (s_X1_shapeBox_J166 (hr48 := hr48) h)
  · replace h := mm_if h c
    clear c
    refine mm_aload_n 2 dX1_shapeBox_148 rfl rfl (pc' := 149) rfl ?_
    refine mm_iload 11 dX1_shapeBox_149 rfl (pc' := 151) rfl ?_
    obtain ⟨t151, h151, h⟩ := mm_bd h
    refine mm_callV (As := [.int v13]) (rest := []) (av := [.ref 0, .int v13]) (wc := (W_X5 u_wide u_high u_slackNow u_tenants u_letters u_readings u_kinds u_painOf u_payFor u_refused u_owned u_litIn u_shapes u_readAt u_meant u_readSo)) (is := [15, 16, 17, 18, 19, 20, 21, 22, 23, 24, 25]) cV_X1_119 (ok_X5_readAs h151) ⟨rfl, rfl, Nat.le_of_ble_eq_true rfl, Nat.le_of_ble_eq_true rfl⟩ dX1_shapeBox_151 rfl rfl rfl rfl rfl ⟨rfl, by decide, by decide⟩ (by rintro _ _ ⟨-, rfl⟩; rfl) (Nat.le_of_ble_eq_true rfl) ⟨Nat.le_of_ble_eq_true rfl, Nat.le_of_ble_eq_true rfl⟩ (pc' := 154) rfl ?_
    rintro rv w ⟨rfl, rfl⟩
    show mm_Wp _ _ _ _ 154 [(16, .int s0), (0, .ref 0), (1, .ref 15), (2, .int v2), (3, .int v3), (4, .int v4), (8, .int v8), (9, .int v9), (10, .int v10), (11, .int v11), (12, .int v12), (13, .int v13), (15, .int v15)] [.int t151] (W_X1_X5_X6 q_pains q_windows q_shapes q_places_y q_places_boxes q_places_lastColumn q_places_lastTop q_places_columns q_deviations q_painsOfCell q_painsAt_0 q_painsAt_1 q_painsAt_2 q_shapeAt_0 q_shapeAt_1 q_shapeAt_2 u_wide u_high u_slackNow u_tenants u_letters u_readings u_kinds u_painOf u_payFor u_refused u_owned u_litIn u_shapes u_readAt u_meant u_readSo w_length w_bits w_letters)
    clear h151
    refine mm_iload_n 4 dX1_shapeBox_154 rfl rfl (pc' := 155) rfl ?_
    refine mm_icmp_ne (tgt := 166) dX1_shapeBox_155 (by decide) (pc' := 158) rfl (fun c => ?_) (fun c => ?_)
    · replace h := mm_if h c
      clear c
      exact mm_sub [1, 2, 3, 4, 5, 6, 7, 8, 9, 10] rfl (s_X1_shapeBox_J166 (hr48 := hr48) h)
    · replace h := mm_it h c
      clear c
      refine mm_iload 12 dX1_shapeBox_158 rfl (pc' := 160) rfl ?_
      refine mm_istore dX1_shapeBox_160 (by decide) (l' := [(10, .int v15), (16, .int s0), (0, .ref 0), (1, .ref 15), (2, .int v2), (3, .int v3), (4, .int v4), (8, .int v8), (9, .int v9), (11, .int v11), (12, .int v12), (13, .int v13), (15, .int v15)]) rfl (pc' := 162) rfl ?_
      refine mm_iload 11 dX1_shapeBox_162 rfl (pc' := 164) rfl ?_
      refine mm_istore dX1_shapeBox_164 (by decide) (l' := [(11, .int v13), (10, .int v15), (16, .int s0), (0, .ref 0), (1, .ref 15), (2, .int v2), (3, .int v3), (4, .int v4), (8, .int v8), (9, .int v9), (12, .int v12), (13, .int v13), (15, .int v15)]) rfl (pc' := 166) rfl ?_
      exact mm_sub [3, 4, 5, 6, 7, 8, 9, 1, 0, 10] rfl (s_X1_shapeBox_J166 (hr48 := hr48) h)
def X1_shapeBox_J136 (fu : Nat) (rec48 : Int32 → Int32 → Int32 → Option ((Nat → Int32) × (Nat → Int32) × (Nat → Int32) × (Nat → Int32) × (Nat → Int32) × (Nat → Int32) × (Nat → Int32))) (q_deviations : Nat → Int32) (q_painsOfCell : Nat → Int32) (q_painsAt_0 : Nat → Int32) (q_painsAt_1 : Nat → Int32) (q_painsAt_2 : Nat → Int32) (q_shapeAt_0 : Nat → Int32) (q_shapeAt_1 : Nat → Int32) (q_shapeAt_2 : Nat → Int32) (u_slackNow : Int32) (u_tenants : Int32) (u_letters : Int32) (u_kinds : Nat → Int32) (u_painOf : Nat → Int32) (u_owned : Nat → Int64) (u_litIn : Nat → Int64) (u_shapes : Nat → Int32) (v2 : Int32) (v3 : Int32) (v4 : Int32) (v8 : Int32) (v9 : Int32) (v10 : Int32) (v11 : Int32) (v12 : Int32) (v13 : Int32) (v15 : Int32)  : Option ((Nat → Int32) × (Nat → Int32) × (Nat → Int32) × (Nat → Int32) × (Nat → Int32) × (Nat → Int32) × (Nat → Int32)) := X1_shapeBox_J141 fu rec48 q_deviations q_painsOfCell q_painsAt_0 q_painsAt_1 q_painsAt_2 q_shapeAt_0 q_shapeAt_1 q_shapeAt_2 u_slackNow u_tenants u_letters u_kinds u_painOf u_owned u_litIn u_shapes v2 v3 v4 v8 v9 v10 v11 v12 v13 v15 (1 : Int32)
set_option maxHeartbeats 4000000 in
set_option maxRecDepth 100000 in
theorem s_X1_shapeBox_J136 {fu : Nat} {q_pains : Int32} {q_windows : Nat → Int32} {q_shapes : Nat → Int32} {q_places_y : Int32} {q_places_boxes : Int32} {q_places_lastColumn : Int32} {q_places_lastTop : Int32} {q_places_columns : Nat → Int32} {q_deviations : Nat → Int32} {q_painsOfCell : Nat → Int32} {q_painsAt_0 : Nat → Int32} {q_painsAt_1 : Nat → Int32} {q_painsAt_2 : Nat → Int32} {q_shapeAt_0 : Nat → Int32} {q_shapeAt_1 : Nat → Int32} {q_shapeAt_2 : Nat → Int32} {u_wide : Int32} {u_high : Int32} {u_slackNow : Int32} {u_tenants : Int32} {u_letters : Int32} {u_readings : Int32} {u_kinds : Nat → Int32} {u_painOf : Nat → Int32} {u_payFor : Nat → Int32} {u_refused : Nat → Int32} {u_owned : Nat → Int64} {u_litIn : Nat → Int64} {u_shapes : Nat → Int32} {u_readAt : Nat → Int32} {u_meant : Nat → Int32} {u_readSo : Nat → Int32} {w_length : Int32} {w_bits : Int32} {w_letters : Nat → Int32} {r : (Nat → Int32) × (Nat → Int32) × (Nat → Int32) × (Nat → Int32) × (Nat → Int32) × (Nat → Int32) × (Nat → Int32)} {rec48 : Int32 → Int32 → Int32 → Option ((Nat → Int32) × (Nat → Int32) × (Nat → Int32) × (Nat → Int32) × (Nat → Int32) × (Nat → Int32) × (Nat → Int32))} {v2 : Int32} {v3 : Int32} {v4 : Int32} {v8 : Int32} {v9 : Int32} {v10 : Int32} {v11 : Int32} {v12 : Int32} {v13 : Int32} {v15 : Int32} (hr48 : ∀ (y10 : Int32) (y11 : Int32) (y12 : Int32), rec48 y10 y11 y12 = some r → mm_Wp mX1_shapeBox (mm_R (P_X1_shapeBox q_pains q_windows q_shapes q_places_y q_places_boxes q_places_lastColumn q_places_lastTop q_places_columns q_deviations u_wide u_high u_slackNow u_tenants u_letters u_readings u_kinds u_painOf u_payFor u_refused u_owned u_litIn u_shapes u_readAt u_meant u_readSo w_length w_bits w_letters r)) 0 0 48 [(0, .ref 0), (1, .ref 15), (2, .int v2), (3, .int v3), (4, .int v4), (8, .int v8), (9, .int v9), (10, .int y10), (11, .int y11), (12, .int y12)] [] (W_X1_X5_X6 q_pains q_windows q_shapes q_places_y q_places_boxes q_places_lastColumn q_places_lastTop q_places_columns q_deviations q_painsOfCell q_painsAt_0 q_painsAt_1 q_painsAt_2 q_shapeAt_0 q_shapeAt_1 q_shapeAt_2 u_wide u_high u_slackNow u_tenants u_letters u_readings u_kinds u_painOf u_payFor u_refused u_owned u_litIn u_shapes u_readAt u_meant u_readSo w_length w_bits w_letters)) (h : X1_shapeBox_J136 fu rec48 q_deviations q_painsOfCell q_painsAt_0 q_painsAt_1 q_painsAt_2 q_shapeAt_0 q_shapeAt_1 q_shapeAt_2 u_slackNow u_tenants u_letters u_kinds u_painOf u_owned u_litIn u_shapes v2 v3 v4 v8 v9 v10 v11 v12 v13 v15 = some r) : mm_Wp mX1_shapeBox (mm_R (P_X1_shapeBox q_pains q_windows q_shapes q_places_y q_places_boxes q_places_lastColumn q_places_lastTop q_places_columns q_deviations u_wide u_high u_slackNow u_tenants u_letters u_readings u_kinds u_painOf u_payFor u_refused u_owned u_litIn u_shapes u_readAt u_meant u_readSo w_length w_bits w_letters r)) 0 0 136 [(0, .ref 0), (1, .ref 15), (2, .int v2), (3, .int v3), (4, .int v4), (8, .int v8), (9, .int v9), (10, .int v10), (11, .int v11), (12, .int v12), (13, .int v13), (15, .int v15)] [] (W_X1_X5_X6 q_pains q_windows q_shapes q_places_y q_places_boxes q_places_lastColumn q_places_lastTop q_places_columns q_deviations q_painsOfCell q_painsAt_0 q_painsAt_1 q_painsAt_2 q_shapeAt_0 q_shapeAt_1 q_shapeAt_2 u_wide u_high u_slackNow u_tenants u_letters u_readings u_kinds u_painOf u_payFor u_refused u_owned u_litIn u_shapes u_readAt u_meant u_readSo w_length w_bits w_letters) := by
  rw [X1_shapeBox_J136] at h
  refine mm_iconst dX1_shapeBox_136 ki_1 (pc' := 137) rfl ?_
  refine mm_goto (tgt := 141) dX1_shapeBox_137 (by decide) ?_
  exact s_X1_shapeBox_J141 (hr48 := hr48) h
def X1_shapeBox_J140 (fu : Nat) (rec48 : Int32 → Int32 → Int32 → Option ((Nat → Int32) × (Nat → Int32) × (Nat → Int32) × (Nat → Int32) × (Nat → Int32) × (Nat → Int32) × (Nat → Int32))) (q_deviations : Nat → Int32) (q_painsOfCell : Nat → Int32) (q_painsAt_0 : Nat → Int32) (q_painsAt_1 : Nat → Int32) (q_painsAt_2 : Nat → Int32) (q_shapeAt_0 : Nat → Int32) (q_shapeAt_1 : Nat → Int32) (q_shapeAt_2 : Nat → Int32) (u_slackNow : Int32) (u_tenants : Int32) (u_letters : Int32) (u_kinds : Nat → Int32) (u_painOf : Nat → Int32) (u_owned : Nat → Int64) (u_litIn : Nat → Int64) (u_shapes : Nat → Int32) (v2 : Int32) (v3 : Int32) (v4 : Int32) (v8 : Int32) (v9 : Int32) (v10 : Int32) (v11 : Int32) (v12 : Int32) (v13 : Int32) (v15 : Int32)  : Option ((Nat → Int32) × (Nat → Int32) × (Nat → Int32) × (Nat → Int32) × (Nat → Int32) × (Nat → Int32) × (Nat → Int32)) := X1_shapeBox_J141 fu rec48 q_deviations q_painsOfCell q_painsAt_0 q_painsAt_1 q_painsAt_2 q_shapeAt_0 q_shapeAt_1 q_shapeAt_2 u_slackNow u_tenants u_letters u_kinds u_painOf u_owned u_litIn u_shapes v2 v3 v4 v8 v9 v10 v11 v12 v13 v15 (0 : Int32)
set_option maxHeartbeats 4000000 in
set_option maxRecDepth 100000 in
theorem s_X1_shapeBox_J140 {fu : Nat} {q_pains : Int32} {q_windows : Nat → Int32} {q_shapes : Nat → Int32} {q_places_y : Int32} {q_places_boxes : Int32} {q_places_lastColumn : Int32} {q_places_lastTop : Int32} {q_places_columns : Nat → Int32} {q_deviations : Nat → Int32} {q_painsOfCell : Nat → Int32} {q_painsAt_0 : Nat → Int32} {q_painsAt_1 : Nat → Int32} {q_painsAt_2 : Nat → Int32} {q_shapeAt_0 : Nat → Int32} {q_shapeAt_1 : Nat → Int32} {q_shapeAt_2 : Nat → Int32} {u_wide : Int32} {u_high : Int32} {u_slackNow : Int32} {u_tenants : Int32} {u_letters : Int32} {u_readings : Int32} {u_kinds : Nat → Int32} {u_painOf : Nat → Int32} {u_payFor : Nat → Int32} {u_refused : Nat → Int32} {u_owned : Nat → Int64} {u_litIn : Nat → Int64} {u_shapes : Nat → Int32} {u_readAt : Nat → Int32} {u_meant : Nat → Int32} {u_readSo : Nat → Int32} {w_length : Int32} {w_bits : Int32} {w_letters : Nat → Int32} {r : (Nat → Int32) × (Nat → Int32) × (Nat → Int32) × (Nat → Int32) × (Nat → Int32) × (Nat → Int32) × (Nat → Int32)} {rec48 : Int32 → Int32 → Int32 → Option ((Nat → Int32) × (Nat → Int32) × (Nat → Int32) × (Nat → Int32) × (Nat → Int32) × (Nat → Int32) × (Nat → Int32))} {v2 : Int32} {v3 : Int32} {v4 : Int32} {v8 : Int32} {v9 : Int32} {v10 : Int32} {v11 : Int32} {v12 : Int32} {v13 : Int32} {v15 : Int32} (hr48 : ∀ (y10 : Int32) (y11 : Int32) (y12 : Int32), rec48 y10 y11 y12 = some r → mm_Wp mX1_shapeBox (mm_R (P_X1_shapeBox q_pains q_windows q_shapes q_places_y q_places_boxes q_places_lastColumn q_places_lastTop q_places_columns q_deviations u_wide u_high u_slackNow u_tenants u_letters u_readings u_kinds u_painOf u_payFor u_refused u_owned u_litIn u_shapes u_readAt u_meant u_readSo w_length w_bits w_letters r)) 0 0 48 [(0, .ref 0), (1, .ref 15), (2, .int v2), (3, .int v3), (4, .int v4), (8, .int v8), (9, .int v9), (10, .int y10), (11, .int y11), (12, .int y12)] [] (W_X1_X5_X6 q_pains q_windows q_shapes q_places_y q_places_boxes q_places_lastColumn q_places_lastTop q_places_columns q_deviations q_painsOfCell q_painsAt_0 q_painsAt_1 q_painsAt_2 q_shapeAt_0 q_shapeAt_1 q_shapeAt_2 u_wide u_high u_slackNow u_tenants u_letters u_readings u_kinds u_painOf u_payFor u_refused u_owned u_litIn u_shapes u_readAt u_meant u_readSo w_length w_bits w_letters)) (h : X1_shapeBox_J140 fu rec48 q_deviations q_painsOfCell q_painsAt_0 q_painsAt_1 q_painsAt_2 q_shapeAt_0 q_shapeAt_1 q_shapeAt_2 u_slackNow u_tenants u_letters u_kinds u_painOf u_owned u_litIn u_shapes v2 v3 v4 v8 v9 v10 v11 v12 v13 v15 = some r) : mm_Wp mX1_shapeBox (mm_R (P_X1_shapeBox q_pains q_windows q_shapes q_places_y q_places_boxes q_places_lastColumn q_places_lastTop q_places_columns q_deviations u_wide u_high u_slackNow u_tenants u_letters u_readings u_kinds u_painOf u_payFor u_refused u_owned u_litIn u_shapes u_readAt u_meant u_readSo w_length w_bits w_letters r)) 0 0 140 [(0, .ref 0), (1, .ref 15), (2, .int v2), (3, .int v3), (4, .int v4), (8, .int v8), (9, .int v9), (10, .int v10), (11, .int v11), (12, .int v12), (13, .int v13), (15, .int v15)] [] (W_X1_X5_X6 q_pains q_windows q_shapes q_places_y q_places_boxes q_places_lastColumn q_places_lastTop q_places_columns q_deviations q_painsOfCell q_painsAt_0 q_painsAt_1 q_painsAt_2 q_shapeAt_0 q_shapeAt_1 q_shapeAt_2 u_wide u_high u_slackNow u_tenants u_letters u_readings u_kinds u_painOf u_payFor u_refused u_owned u_litIn u_shapes u_readAt u_meant u_readSo w_length w_bits w_letters) := by
  rw [X1_shapeBox_J140] at h
  refine mm_iconst dX1_shapeBox_140 ki_0 (pc' := 141) rfl ?_
  exact s_X1_shapeBox_J141 (hr48 := hr48) h
def X1_shapeBox_L48 (fu : Nat)  (q_deviations : Nat → Int32) (q_painsOfCell : Nat → Int32) (q_painsAt_0 : Nat → Int32) (q_painsAt_1 : Nat → Int32) (q_painsAt_2 : Nat → Int32) (q_shapeAt_0 : Nat → Int32) (q_shapeAt_1 : Nat → Int32) (q_shapeAt_2 : Nat → Int32) (u_slackNow : Int32) (u_tenants : Int32) (u_letters : Int32) (u_kinds : Nat → Int32) (u_painOf : Nat → Int32) (u_owned : Nat → Int64) (u_litIn : Nat → Int64) (u_shapes : Nat → Int32) (v2 : Int32) (v3 : Int32) (v4 : Int32) (v8 : Int32) (v9 : Int32) : Nat → Int32 → Int32 → Int32 → Option ((Nat → Int32) × (Nat → Int32) × (Nat → Int32) × (Nat → Int32) × (Nat → Int32) × (Nat → Int32) × (Nat → Int32))
  | 0, _, _, _ => none
  | n + 1, v10, v11, v12 => if (299 : Int32) ≤ v12 then (X1_shapeBox_J172 fu q_deviations q_painsOfCell q_painsAt_0 q_painsAt_1 q_painsAt_2 q_shapeAt_0 q_shapeAt_1 q_shapeAt_2 u_slackNow u_tenants u_letters u_kinds u_painOf u_owned u_litIn u_shapes v2 v4 v10 v11) else (mm_rd q_deviations 299 v12 fun x62 => (f_J6_bitCount_0f7a4 fu x62).bind fun t63 => if u_slackNow < t63 then (X1_shapeBox_J172 fu q_deviations q_painsOfCell q_painsAt_0 q_painsAt_1 q_painsAt_2 q_shapeAt_0 q_shapeAt_1 q_shapeAt_2 u_slackNow u_tenants u_letters u_kinds u_painOf u_owned u_litIn u_shapes v2 v4 v10 v11) else (mm_rd u_shapes 6 v3 fun x78 => mm_rd q_deviations 299 v12 fun x85 => if (((x78 ^^^ x85) ^^^ v8) &&& v9) = 0 then ((f_X1_painsOfCells fu q_painsOfCell ((x78 ^^^ x85) ^^^ v8)).bind fun t110 => if t110 < v10 then (X1_shapeBox_J136 fu (X1_shapeBox_L48 fu q_deviations q_painsOfCell q_painsAt_0 q_painsAt_1 q_painsAt_2 q_shapeAt_0 q_shapeAt_1 q_shapeAt_2 u_slackNow u_tenants u_letters u_kinds u_painOf u_owned u_litIn u_shapes v2 v3 v4 v8 v9 n) q_deviations q_painsOfCell q_painsAt_0 q_painsAt_1 q_painsAt_2 q_shapeAt_0 q_shapeAt_1 q_shapeAt_2 u_slackNow u_tenants u_letters u_kinds u_painOf u_owned u_litIn u_shapes v2 v3 v4 v8 v9 v10 v11 v12 (x78 ^^^ x85) t110) else (if t110 = v10 then (if v11 ≤ (x78 ^^^ x85) then (X1_shapeBox_J140 fu (X1_shapeBox_L48 fu q_deviations q_painsOfCell q_painsAt_0 q_painsAt_1 q_painsAt_2 q_shapeAt_0 q_shapeAt_1 q_shapeAt_2 u_slackNow u_tenants u_letters u_kinds u_painOf u_owned u_litIn u_shapes v2 v3 v4 v8 v9 n) q_deviations q_painsOfCell q_painsAt_0 q_painsAt_1 q_painsAt_2 q_shapeAt_0 q_shapeAt_1 q_shapeAt_2 u_slackNow u_tenants u_letters u_kinds u_painOf u_owned u_litIn u_shapes v2 v3 v4 v8 v9 v10 v11 v12 (x78 ^^^ x85) t110) else (X1_shapeBox_J136 fu (X1_shapeBox_L48 fu q_deviations q_painsOfCell q_painsAt_0 q_painsAt_1 q_painsAt_2 q_shapeAt_0 q_shapeAt_1 q_shapeAt_2 u_slackNow u_tenants u_letters u_kinds u_painOf u_owned u_litIn u_shapes v2 v3 v4 v8 v9 n) q_deviations q_painsOfCell q_painsAt_0 q_painsAt_1 q_painsAt_2 q_shapeAt_0 q_shapeAt_1 q_shapeAt_2 u_slackNow u_tenants u_letters u_kinds u_painOf u_owned u_litIn u_shapes v2 v3 v4 v8 v9 v10 v11 v12 (x78 ^^^ x85) t110)) else (X1_shapeBox_J140 fu (X1_shapeBox_L48 fu q_deviations q_painsOfCell q_painsAt_0 q_painsAt_1 q_painsAt_2 q_shapeAt_0 q_shapeAt_1 q_shapeAt_2 u_slackNow u_tenants u_letters u_kinds u_painOf u_owned u_litIn u_shapes v2 v3 v4 v8 v9 n) q_deviations q_painsOfCell q_painsAt_0 q_painsAt_1 q_painsAt_2 q_shapeAt_0 q_shapeAt_1 q_shapeAt_2 u_slackNow u_tenants u_letters u_kinds u_painOf u_owned u_litIn u_shapes v2 v3 v4 v8 v9 v10 v11 v12 (x78 ^^^ x85) t110))) else (X1_shapeBox_J166 fu (X1_shapeBox_L48 fu q_deviations q_painsOfCell q_painsAt_0 q_painsAt_1 q_painsAt_2 q_shapeAt_0 q_shapeAt_1 q_shapeAt_2 u_slackNow u_tenants u_letters u_kinds u_painOf u_owned u_litIn u_shapes v2 v3 v4 v8 v9 n) q_deviations q_painsOfCell q_painsAt_0 q_painsAt_1 q_painsAt_2 q_shapeAt_0 q_shapeAt_1 q_shapeAt_2 u_slackNow u_tenants u_letters u_kinds u_painOf u_owned u_litIn u_shapes v2 v3 v4 v8 v9 v10 v11 v12)))
set_option maxHeartbeats 4000000 in
set_option maxRecDepth 100000 in
theorem s_X1_shapeBox_L48 {fu : Nat} {q_pains : Int32} {q_windows : Nat → Int32} {q_shapes : Nat → Int32} {q_places_y : Int32} {q_places_boxes : Int32} {q_places_lastColumn : Int32} {q_places_lastTop : Int32} {q_places_columns : Nat → Int32} {q_deviations : Nat → Int32} {q_painsOfCell : Nat → Int32} {q_painsAt_0 : Nat → Int32} {q_painsAt_1 : Nat → Int32} {q_painsAt_2 : Nat → Int32} {q_shapeAt_0 : Nat → Int32} {q_shapeAt_1 : Nat → Int32} {q_shapeAt_2 : Nat → Int32} {u_wide : Int32} {u_high : Int32} {u_slackNow : Int32} {u_tenants : Int32} {u_letters : Int32} {u_readings : Int32} {u_kinds : Nat → Int32} {u_painOf : Nat → Int32} {u_payFor : Nat → Int32} {u_refused : Nat → Int32} {u_owned : Nat → Int64} {u_litIn : Nat → Int64} {u_shapes : Nat → Int32} {u_readAt : Nat → Int32} {u_meant : Nat → Int32} {u_readSo : Nat → Int32} {w_length : Int32} {w_bits : Int32} {w_letters : Nat → Int32} {r : (Nat → Int32) × (Nat → Int32) × (Nat → Int32) × (Nat → Int32) × (Nat → Int32) × (Nat → Int32) × (Nat → Int32)} {v2 : Int32} {v3 : Int32} {v4 : Int32} {v8 : Int32} {v9 : Int32} : ∀ (n : Nat) (v10 : Int32) (v11 : Int32) (v12 : Int32), X1_shapeBox_L48 fu q_deviations q_painsOfCell q_painsAt_0 q_painsAt_1 q_painsAt_2 q_shapeAt_0 q_shapeAt_1 q_shapeAt_2 u_slackNow u_tenants u_letters u_kinds u_painOf u_owned u_litIn u_shapes v2 v3 v4 v8 v9 n v10 v11 v12 = some r → mm_Wp mX1_shapeBox (mm_R (P_X1_shapeBox q_pains q_windows q_shapes q_places_y q_places_boxes q_places_lastColumn q_places_lastTop q_places_columns q_deviations u_wide u_high u_slackNow u_tenants u_letters u_readings u_kinds u_painOf u_payFor u_refused u_owned u_litIn u_shapes u_readAt u_meant u_readSo w_length w_bits w_letters r)) 0 0 48 [(0, .ref 0), (1, .ref 15), (2, .int v2), (3, .int v3), (4, .int v4), (8, .int v8), (9, .int v9), (10, .int v10), (11, .int v11), (12, .int v12)] [] (W_X1_X5_X6 q_pains q_windows q_shapes q_places_y q_places_boxes q_places_lastColumn q_places_lastTop q_places_columns q_deviations q_painsOfCell q_painsAt_0 q_painsAt_1 q_painsAt_2 q_shapeAt_0 q_shapeAt_1 q_shapeAt_2 u_wide u_high u_slackNow u_tenants u_letters u_readings u_kinds u_painOf u_payFor u_refused u_owned u_litIn u_shapes u_readAt u_meant u_readSo w_length w_bits w_letters) := by
  intro n
  induction n with
  | zero =>
    intro v10 v11 v12 h
    rw [X1_shapeBox_L48] at h
    cases h
  | succ n hr48 =>
    intro v10 v11 v12 h
    rw [X1_shapeBox_L48] at h
    refine mm_iload 9 dX1_shapeBox_48 rfl (pc' := 50) rfl ?_
    refine mm_sipush dX1_shapeBox_50 ks_299 (pc' := 53) rfl ?_
    refine mm_icmp_ge (tgt := 172) dX1_shapeBox_53 (by decide) (pc' := 56) rfl (fun c => ?_) (fun c => ?_)
    · replace h := mm_it h c
      clear c
      exact mm_sub [0, 2, 4, 7, 8] rfl (s_X1_shapeBox_J172  h)
    · replace h := mm_if h c
      clear c
      refine mm_aload_n 0 dX1_shapeBox_56 rfl rfl (pc' := 57) rfl ?_
      refine mm_getf fG_X1_29 dX1_shapeBox_57 rfl rfl (pc' := 60) rfl ?_
      refine mm_iload 9 dX1_shapeBox_60 rfl (pc' := 62) rfl ?_
      obtain ⟨x62, c62, e62, h⟩ := mm_rd_of h
      refine mm_iald dX1_shapeBox_62 rfl c62 e62 (pc' := 63) rfl ?_
      clear c62 e62
      obtain ⟨t63, h63, h⟩ := mm_bd h
      refine mm_callS (As := [.int x62]) (rest := []) (av := [.int x62]) (wc := []) (is := []) cS_X1_107 (ok_J6_bitCount_0f7a4 h63) ⟨rfl, rfl, Nat.le_of_ble_eq_true rfl, Nat.le_of_ble_eq_true rfl⟩ dX1_shapeBox_63 rfl rfl rfl ⟨rfl, by decide, by decide⟩ (by rintro _ _ ⟨-, rfl⟩; rfl) (Nat.le_of_ble_eq_true rfl) ⟨Nat.le_of_ble_eq_true rfl, Nat.le_of_ble_eq_true rfl⟩ (pc' := 66) rfl ?_
      rintro rv w ⟨rfl, rfl⟩
      show mm_Wp _ _ _ _ 66 [(0, .ref 0), (1, .ref 15), (2, .int v2), (3, .int v3), (4, .int v4), (8, .int v8), (9, .int v9), (10, .int v10), (11, .int v11), (12, .int v12)] [.int t63] (W_X1_X5_X6 q_pains q_windows q_shapes q_places_y q_places_boxes q_places_lastColumn q_places_lastTop q_places_columns q_deviations q_painsOfCell q_painsAt_0 q_painsAt_1 q_painsAt_2 q_shapeAt_0 q_shapeAt_1 q_shapeAt_2 u_wide u_high u_slackNow u_tenants u_letters u_readings u_kinds u_painOf u_payFor u_refused u_owned u_litIn u_shapes u_readAt u_meant u_readSo w_length w_bits w_letters)
      clear h63
      refine mm_aload_n 1 dX1_shapeBox_66 rfl rfl (pc' := 67) rfl ?_
      refine mm_getf fG_X1_112 dX1_shapeBox_67 rfl rfl (pc' := 70) rfl ?_
      refine mm_icmp_gt (tgt := 172) dX1_shapeBox_70 (by decide) (pc' := 73) rfl (fun c => ?_) (fun c => ?_)
      · replace h := mm_it h c
        clear c
        exact mm_sub [0, 2, 4, 7, 8] rfl (s_X1_shapeBox_J172  h)
      · replace h := mm_if h c
        clear c
        refine mm_aload_n 1 dX1_shapeBox_73 rfl rfl (pc' := 74) rfl ?_
        refine mm_getf fG_X1_115 dX1_shapeBox_74 rfl rfl (pc' := 77) rfl ?_
        refine mm_iload_n 3 dX1_shapeBox_77 rfl rfl (pc' := 78) rfl ?_
        obtain ⟨x78, c78, e78, h⟩ := mm_rd_of h
        refine mm_iald dX1_shapeBox_78 rfl c78 e78 (pc' := 79) rfl ?_
        clear c78 e78
        refine mm_aload_n 0 dX1_shapeBox_79 rfl rfl (pc' := 80) rfl ?_
        refine mm_getf fG_X1_29 dX1_shapeBox_80 rfl rfl (pc' := 83) rfl ?_
        refine mm_iload 9 dX1_shapeBox_83 rfl (pc' := 85) rfl ?_
        obtain ⟨x85, c85, e85, h⟩ := mm_rd_of h
        refine mm_iald dX1_shapeBox_85 rfl c85 e85 (pc' := 86) rfl ?_
        clear c85 e85
        refine mm_ixor dX1_shapeBox_86 (pc' := 87) rfl ?_
        refine mm_istore dX1_shapeBox_87 (by decide) (l' := [(13, .int (x78 ^^^ x85)), (0, .ref 0), (1, .ref 15), (2, .int v2), (3, .int v3), (4, .int v4), (8, .int v8), (9, .int v9), (10, .int v10), (11, .int v11), (12, .int v12)]) rfl (pc' := 89) rfl ?_
        refine mm_iload 0 dX1_shapeBox_89 rfl (pc' := 91) rfl ?_
        refine mm_iload 6 dX1_shapeBox_91 rfl (pc' := 93) rfl ?_
        refine mm_ixor dX1_shapeBox_93 (pc' := 94) rfl ?_
        refine mm_istore dX1_shapeBox_94 (by decide) (l' := [(14, .int ((x78 ^^^ x85) ^^^ v8)), (13, .int (x78 ^^^ x85)), (0, .ref 0), (1, .ref 15), (2, .int v2), (3, .int v3), (4, .int v4), (8, .int v8), (9, .int v9), (10, .int v10), (11, .int v11), (12, .int v12)]) rfl (pc' := 96) rfl ?_
        refine mm_iload 0 dX1_shapeBox_96 rfl (pc' := 98) rfl ?_
        refine mm_iload 8 dX1_shapeBox_98 rfl (pc' := 100) rfl ?_
        refine mm_iand dX1_shapeBox_100 (pc' := 101) rfl ?_
        refine mm_if_eq (tgt := 107) dX1_shapeBox_101 (by decide) (pc' := 104) rfl (fun c => ?_) (fun c => ?_)
        · replace h := mm_it h c
          clear c
          refine mm_aload_n 2 dX1_shapeBox_107 rfl rfl (pc' := 108) rfl ?_
          refine mm_iload 0 dX1_shapeBox_108 rfl (pc' := 110) rfl ?_
          obtain ⟨t110, h110, h⟩ := mm_bd h
          refine mm_call0 (As := [.int ((x78 ^^^ x85) ^^^ v8)]) (rest := []) cV_X1_116 (ok_X1_painsOfCells h110) ⟨rfl, rfl, Nat.le_of_ble_eq_true rfl, Nat.le_of_ble_eq_true rfl⟩ dX1_shapeBox_110 rfl rfl rfl rfl (by rintro _ _ ⟨-, rfl⟩; rfl) (Nat.le_of_ble_eq_true rfl) ⟨Nat.le_of_ble_eq_true rfl, Nat.le_of_ble_eq_true rfl⟩ (pc' := 113) rfl ?_
          rintro rv w ⟨rfl, rfl⟩
          show mm_Wp _ _ _ _ 113 [(14, .int ((x78 ^^^ x85) ^^^ v8)), (13, .int (x78 ^^^ x85)), (0, .ref 0), (1, .ref 15), (2, .int v2), (3, .int v3), (4, .int v4), (8, .int v8), (9, .int v9), (10, .int v10), (11, .int v11), (12, .int v12)] [.int t110] (W_X1_X5_X6 q_pains q_windows q_shapes q_places_y q_places_boxes q_places_lastColumn q_places_lastTop q_places_columns q_deviations q_painsOfCell q_painsAt_0 q_painsAt_1 q_painsAt_2 q_shapeAt_0 q_shapeAt_1 q_shapeAt_2 u_wide u_high u_slackNow u_tenants u_letters u_readings u_kinds u_painOf u_payFor u_refused u_owned u_litIn u_shapes u_readAt u_meant u_readSo w_length w_bits w_letters)
          clear h110
          refine mm_istore dX1_shapeBox_113 (by decide) (l' := [(15, .int t110), (14, .int ((x78 ^^^ x85) ^^^ v8)), (13, .int (x78 ^^^ x85)), (0, .ref 0), (1, .ref 15), (2, .int v2), (3, .int v3), (4, .int v4), (8, .int v8), (9, .int v9), (10, .int v10), (11, .int v11), (12, .int v12)]) rfl (pc' := 115) rfl ?_
          refine mm_iload 0 dX1_shapeBox_115 rfl (pc' := 117) rfl ?_
          refine mm_iload 10 dX1_shapeBox_117 rfl (pc' := 119) rfl ?_
          refine mm_icmp_lt (tgt := 136) dX1_shapeBox_119 (by decide) (pc' := 122) rfl (fun c => ?_) (fun c => ?_)
          · replace h := mm_it h c
            clear c
            exact mm_sub [3, 4, 5, 6, 7, 8, 9, 10, 11, 12, 2, 0] rfl (s_X1_shapeBox_J136 (hr48 := hr48) h)
          · replace h := mm_if h c
            clear c
            refine mm_iload 0 dX1_shapeBox_122 rfl (pc' := 124) rfl ?_
            refine mm_iload 10 dX1_shapeBox_124 rfl (pc' := 126) rfl ?_
            refine mm_icmp_ne (tgt := 140) dX1_shapeBox_126 (by decide) (pc' := 129) rfl (fun c => ?_) (fun c => ?_)
            · replace h := mm_if h c
              clear c
              exact mm_sub [3, 4, 5, 6, 7, 8, 9, 10, 11, 12, 2, 0] rfl (s_X1_shapeBox_J140 (hr48 := hr48) h)
            · replace h := mm_it h c
              clear c
              refine mm_iload 2 dX1_shapeBox_129 rfl (pc' := 131) rfl ?_
              refine mm_iload 11 dX1_shapeBox_131 rfl (pc' := 133) rfl ?_
              refine mm_icmp_ge (tgt := 140) dX1_shapeBox_133 (by decide) (pc' := 136) rfl (fun c => ?_) (fun c => ?_)
              · replace h := mm_it h c
                clear c
                exact mm_sub [3, 4, 5, 6, 7, 8, 9, 10, 11, 12, 2, 0] rfl (s_X1_shapeBox_J140 (hr48 := hr48) h)
              · replace h := mm_if h c
                clear c
                exact mm_sub [3, 4, 5, 6, 7, 8, 9, 10, 11, 12, 2, 0] rfl (s_X1_shapeBox_J136 (hr48 := hr48) h)
        · replace h := mm_if h c
          clear c
          refine mm_goto (tgt := 166) dX1_shapeBox_104 (by decide) ?_
          exact mm_sub [2, 3, 4, 5, 6, 7, 8, 9, 10, 11] rfl (s_X1_shapeBox_J166 (hr48 := hr48) h)
def f_X1_shapeBox (fu : Nat) (q_deviations : Nat → Int32) (q_painsOfCell : Nat → Int32) (q_painsAt_0 : Nat → Int32) (q_painsAt_1 : Nat → Int32) (q_painsAt_2 : Nat → Int32) (q_shapeAt_0 : Nat → Int32) (q_shapeAt_1 : Nat → Int32) (q_shapeAt_2 : Nat → Int32) (u_slackNow : Int32) (u_tenants : Int32) (u_letters : Int32) (u_kinds : Nat → Int32) (u_painOf : Nat → Int32) (u_owned : Nat → Int64) (u_litIn : Nat → Int64) (u_shapes : Nat → Int32) (v2 : Int32) (v3 : Int32) (v4 : Int32) (v5 : Int32) (v6 : Int64) : Option ((Nat → Int32) × (Nat → Int32) × (Nat → Int32) × (Nat → Int32) × (Nat → Int32) × (Nat → Int32) × (Nat → Int32)) := mm_rd u_litIn 4 v5 fun x6 => (f_X7_shapeIn fu x6 v4).bind fun t9 => (f_X7_shapeIn fu v6 v4).bind fun t18 => mm_let ((t18 ^^^ (-1 : Int32)) &&& (4095 : Int32)) fun y27 => (f_X1_tellCells fu q_painsOfCell u_tenants u_kinds u_painOf u_owned u_litIn v4 v5).bind fun t35 => X1_shapeBox_L48 fu q_deviations t35 q_painsAt_0 q_painsAt_1 q_painsAt_2 q_shapeAt_0 q_shapeAt_1 q_shapeAt_2 u_slackNow u_tenants u_letters u_kinds u_painOf u_owned u_litIn u_shapes v2 v3 v4 t9 y27 fu (1000000 : Int32) (0 : Int32) (0 : Int32)
set_option maxHeartbeats 4000000 in
set_option maxRecDepth 100000 in
theorem ok_X1_shapeBox {fu : Nat} {q_pains : Int32} {q_windows : Nat → Int32} {q_shapes : Nat → Int32} {q_places_y : Int32} {q_places_boxes : Int32} {q_places_lastColumn : Int32} {q_places_lastTop : Int32} {q_places_columns : Nat → Int32} {q_deviations : Nat → Int32} {q_painsOfCell : Nat → Int32} {q_painsAt_0 : Nat → Int32} {q_painsAt_1 : Nat → Int32} {q_painsAt_2 : Nat → Int32} {q_shapeAt_0 : Nat → Int32} {q_shapeAt_1 : Nat → Int32} {q_shapeAt_2 : Nat → Int32} {u_wide : Int32} {u_high : Int32} {u_slackNow : Int32} {u_tenants : Int32} {u_letters : Int32} {u_readings : Int32} {u_kinds : Nat → Int32} {u_painOf : Nat → Int32} {u_payFor : Nat → Int32} {u_refused : Nat → Int32} {u_owned : Nat → Int64} {u_litIn : Nat → Int64} {u_shapes : Nat → Int32} {u_readAt : Nat → Int32} {u_meant : Nat → Int32} {u_readSo : Nat → Int32} {w_length : Int32} {w_bits : Int32} {w_letters : Nat → Int32} {r : (Nat → Int32) × (Nat → Int32) × (Nat → Int32) × (Nat → Int32) × (Nat → Int32) × (Nat → Int32) × (Nat → Int32)} {v2 : Int32} {v3 : Int32} {v4 : Int32} {v5 : Int32} {v6 : Int64} (h : f_X1_shapeBox fu q_deviations q_painsOfCell q_painsAt_0 q_painsAt_1 q_painsAt_2 q_shapeAt_0 q_shapeAt_1 q_shapeAt_2 u_slackNow u_tenants u_letters u_kinds u_painOf u_owned u_litIn u_shapes v2 v3 v4 v5 v6 = some r) : mm_Ok mX1_shapeBox [.ref 0, .ref 15, .int v2, .int v3, .int v4, .int v5, .long v6] (W_X1_X5_X6 q_pains q_windows q_shapes q_places_y q_places_boxes q_places_lastColumn q_places_lastTop q_places_columns q_deviations q_painsOfCell q_painsAt_0 q_painsAt_1 q_painsAt_2 q_shapeAt_0 q_shapeAt_1 q_shapeAt_2 u_wide u_high u_slackNow u_tenants u_letters u_readings u_kinds u_painOf u_payFor u_refused u_owned u_litIn u_shapes u_readAt u_meant u_readSo w_length w_bits w_letters) (P_X1_shapeBox q_pains q_windows q_shapes q_places_y q_places_boxes q_places_lastColumn q_places_lastTop q_places_columns q_deviations u_wide u_high u_slackNow u_tenants u_letters u_readings u_kinds u_painOf u_payFor u_refused u_owned u_litIn u_shapes u_readAt u_meant u_readSo w_length w_bits w_letters r) := by
  rw [f_X1_shapeBox] at h
  refine mm_Ok.of pn_X1 (l := [(0, .ref 0), (1, .ref 15), (2, .int v2), (3, .int v3), (4, .int v4), (5, .int v5), (6, .long v6)]) rfl (Nat.le_of_ble_eq_true rfl) ?_
  refine mm_aload_n 1 dX1_shapeBox_0 rfl rfl (pc' := 1) rfl ?_
  refine mm_getf fG_X1_95 dX1_shapeBox_1 rfl rfl (pc' := 4) rfl ?_
  refine mm_iload 5 dX1_shapeBox_4 rfl (pc' := 6) rfl ?_
  obtain ⟨x6, c6, e6, h⟩ := mm_rd_of h
  refine mm_lald dX1_shapeBox_6 rfl c6 e6 (pc' := 7) rfl ?_
  clear c6 e6
  refine mm_iload 4 dX1_shapeBox_7 rfl (pc' := 9) rfl ?_
  obtain ⟨t9, h9, h⟩ := mm_bd h
  refine mm_callSN (As := [.long x6, .int v4]) (rest := []) (av := [.long x6, .int v4]) (wc := []) (is := []) cN_X1_99 (ok_X7_shapeIn h9) ⟨rfl, rfl, Nat.le_of_ble_eq_true rfl, Nat.le_of_ble_eq_true rfl⟩ dX1_shapeBox_9 rfl rfl rfl ⟨rfl, by decide, by decide⟩ (by rintro _ _ ⟨-, rfl⟩; rfl) (Nat.le_of_ble_eq_true rfl) ⟨Nat.le_of_ble_eq_true rfl, Nat.le_of_ble_eq_true rfl⟩ (pc' := 12) rfl ?_
  rintro rv w ⟨rfl, rfl⟩
  show mm_Wp _ _ _ _ 12 [(0, .ref 0), (1, .ref 15), (2, .int v2), (3, .int v3), (4, .int v4), (5, .int v5), (6, .long v6)] [.int t9] (W_X1_X5_X6 q_pains q_windows q_shapes q_places_y q_places_boxes q_places_lastColumn q_places_lastTop q_places_columns q_deviations q_painsOfCell q_painsAt_0 q_painsAt_1 q_painsAt_2 q_shapeAt_0 q_shapeAt_1 q_shapeAt_2 u_wide u_high u_slackNow u_tenants u_letters u_readings u_kinds u_painOf u_payFor u_refused u_owned u_litIn u_shapes u_readAt u_meant u_readSo w_length w_bits w_letters)
  clear h9
  refine mm_istore dX1_shapeBox_12 (by decide) (l' := [(8, .int t9), (0, .ref 0), (1, .ref 15), (2, .int v2), (3, .int v3), (4, .int v4), (5, .int v5), (6, .long v6)]) rfl (pc' := 14) rfl ?_
  refine mm_lload 7 dX1_shapeBox_14 rfl (pc' := 16) rfl ?_
  refine mm_iload 5 dX1_shapeBox_16 rfl (pc' := 18) rfl ?_
  obtain ⟨t18, h18, h⟩ := mm_bd h
  refine mm_callSN (As := [.long v6, .int v4]) (rest := []) (av := [.long v6, .int v4]) (wc := []) (is := []) cN_X1_99 (ok_X7_shapeIn h18) ⟨rfl, rfl, Nat.le_of_ble_eq_true rfl, Nat.le_of_ble_eq_true rfl⟩ dX1_shapeBox_18 rfl rfl rfl ⟨rfl, by decide, by decide⟩ (by rintro _ _ ⟨-, rfl⟩; rfl) (Nat.le_of_ble_eq_true rfl) ⟨Nat.le_of_ble_eq_true rfl, Nat.le_of_ble_eq_true rfl⟩ (pc' := 21) rfl ?_
  rintro rv w ⟨rfl, rfl⟩
  show mm_Wp _ _ _ _ 21 [(8, .int t9), (0, .ref 0), (1, .ref 15), (2, .int v2), (3, .int v3), (4, .int v4), (5, .int v5), (6, .long v6)] [.int t18] (W_X1_X5_X6 q_pains q_windows q_shapes q_places_y q_places_boxes q_places_lastColumn q_places_lastTop q_places_columns q_deviations q_painsOfCell q_painsAt_0 q_painsAt_1 q_painsAt_2 q_shapeAt_0 q_shapeAt_1 q_shapeAt_2 u_wide u_high u_slackNow u_tenants u_letters u_readings u_kinds u_painOf u_payFor u_refused u_owned u_litIn u_shapes u_readAt u_meant u_readSo w_length w_bits w_letters)
  clear h18
  refine mm_iconst dX1_shapeBox_21 ki_m1 (pc' := 22) rfl ?_
  refine mm_ixor dX1_shapeBox_22 (pc' := 23) rfl ?_
  refine mm_sipush dX1_shapeBox_23 ks_4095 (pc' := 26) rfl ?_
  refine mm_iand dX1_shapeBox_26 (pc' := 27) rfl ?_
  refine mm_topi (fun y27 e => ?_)
  replace h := mm_let_of h y27 e
  clear e
  refine mm_istore dX1_shapeBox_27 (by decide) (l' := [(9, .int y27), (8, .int t9), (0, .ref 0), (1, .ref 15), (2, .int v2), (3, .int v3), (4, .int v4), (5, .int v5), (6, .long v6)]) rfl (pc' := 29) rfl ?_
  refine mm_aload_n 2 dX1_shapeBox_29 rfl rfl (pc' := 30) rfl ?_
  refine mm_aload_n 3 dX1_shapeBox_30 rfl rfl (pc' := 31) rfl ?_
  refine mm_iload 6 dX1_shapeBox_31 rfl (pc' := 33) rfl ?_
  refine mm_iload 7 dX1_shapeBox_33 rfl (pc' := 35) rfl ?_
  obtain ⟨t35, h35, h⟩ := mm_bd h
  refine mm_call0 (As := [.ref 15, .int v4, .int v5]) (rest := []) cV_X1_103 (ok_X1_tellCells h35) ⟨rfl, rfl, Nat.le_of_ble_eq_true rfl, Nat.le_of_ble_eq_true rfl⟩ dX1_shapeBox_35 rfl rfl rfl rfl (by rintro _ _ ⟨-, rfl⟩; rfl) (Nat.le_of_ble_eq_true rfl) ⟨Nat.le_of_ble_eq_true rfl, Nat.le_of_ble_eq_true rfl⟩ (pc' := 38) rfl ?_
  rintro rv w ⟨rfl, rfl⟩
  show mm_Wp _ _ _ _ 38 [(9, .int y27), (8, .int t9), (0, .ref 0), (1, .ref 15), (2, .int v2), (3, .int v3), (4, .int v4), (5, .int v5), (6, .long v6)] [] (W_X1_X5_X6 q_pains q_windows q_shapes q_places_y q_places_boxes q_places_lastColumn q_places_lastTop q_places_columns q_deviations t35 q_painsAt_0 q_painsAt_1 q_painsAt_2 q_shapeAt_0 q_shapeAt_1 q_shapeAt_2 u_wide u_high u_slackNow u_tenants u_letters u_readings u_kinds u_painOf u_payFor u_refused u_owned u_litIn u_shapes u_readAt u_meant u_readSo w_length w_bits w_letters)
  clear h35
  refine mm_ldc kC_X1_60 dX1_shapeBox_38 (pc' := 40) rfl ?_
  refine mm_istore dX1_shapeBox_40 (by decide) (l' := [(10, .int (1000000 : Int32)), (9, .int y27), (8, .int t9), (0, .ref 0), (1, .ref 15), (2, .int v2), (3, .int v3), (4, .int v4), (5, .int v5), (6, .long v6)]) rfl (pc' := 42) rfl ?_
  refine mm_iconst dX1_shapeBox_42 ki_0 (pc' := 43) rfl ?_
  refine mm_istore dX1_shapeBox_43 (by decide) (l' := [(11, .int (0 : Int32)), (10, .int (1000000 : Int32)), (9, .int y27), (8, .int t9), (0, .ref 0), (1, .ref 15), (2, .int v2), (3, .int v3), (4, .int v4), (5, .int v5), (6, .long v6)]) rfl (pc' := 45) rfl ?_
  refine mm_iconst dX1_shapeBox_45 ki_0 (pc' := 46) rfl ?_
  refine mm_istore dX1_shapeBox_46 (by decide) (l' := [(12, .int (0 : Int32)), (11, .int (0 : Int32)), (10, .int (1000000 : Int32)), (9, .int y27), (8, .int t9), (0, .ref 0), (1, .ref 15), (2, .int v2), (3, .int v3), (4, .int v4), (5, .int v5), (6, .long v6)]) rfl (pc' := 48) rfl ?_
  exact mm_sub [5, 6, 7, 8, 9, 4, 3, 2, 1, 0] rfl (s_X1_shapeBox_L48  _ _ _ _ h)

def P_X1_shapeAllBoxes (q_pains : Int32) (q_windows : Nat → Int32) (q_shapes : Nat → Int32) (q_places_y : Int32) (q_places_boxes : Int32) (q_places_lastColumn : Int32) (q_places_lastTop : Int32) (q_places_columns : Nat → Int32) (q_deviations : Nat → Int32) (u_wide : Int32) (u_high : Int32) (u_slackNow : Int32) (u_tenants : Int32) (u_letters : Int32) (u_readings : Int32) (u_kinds : Nat → Int32) (u_painOf : Nat → Int32) (u_payFor : Nat → Int32) (u_refused : Nat → Int32) (u_owned : Nat → Int64) (u_litIn : Nat → Int64) (u_shapes : Nat → Int32) (u_readAt : Nat → Int32) (u_meant : Nat → Int32) (u_readSo : Nat → Int32) (w_length : Int32) (w_bits : Int32) (w_letters : Nat → Int32) (r : (Nat → Int32) × (Nat → Int32) × (Nat → Int32) × (Nat → Int32) × (Nat → Int32) × (Nat → Int32) × (Nat → Int32)) : Option Value → mm_W → Prop := fun rv w => rv = none ∧ w = (W_X1_X5_X6 q_pains q_windows q_shapes q_places_y q_places_boxes q_places_lastColumn q_places_lastTop q_places_columns q_deviations r.1 r.2.1 r.2.2.1 r.2.2.2.1 r.2.2.2.2.1 r.2.2.2.2.2.1 r.2.2.2.2.2.2 u_wide u_high u_slackNow u_tenants u_letters u_readings u_kinds u_painOf u_payFor u_refused u_owned u_litIn u_shapes u_readAt u_meant u_readSo w_length w_bits w_letters)
def X1_shapeAllBoxes_L45 (fu : Nat) (rec16 : (Nat → Int32) → (Nat → Int32) → (Nat → Int32) → (Nat → Int32) → (Nat → Int32) → (Nat → Int32) → (Nat → Int32) → Int32 → Option ((Nat → Int32) × (Nat → Int32) × (Nat → Int32) × (Nat → Int32) × (Nat → Int32) × (Nat → Int32) × (Nat → Int32))) (rec28 : (Nat → Int32) → (Nat → Int32) → (Nat → Int32) → (Nat → Int32) → (Nat → Int32) → (Nat → Int32) → (Nat → Int32) → Int32 → Option ((Nat → Int32) × (Nat → Int32) × (Nat → Int32) × (Nat → Int32) × (Nat → Int32) × (Nat → Int32) × (Nat → Int32))) (q_places_boxes : Int32) (q_places_lastColumn : Int32) (q_deviations : Nat → Int32) (u_high : Int32) (u_slackNow : Int32) (u_tenants : Int32) (u_letters : Int32) (u_kinds : Nat → Int32) (u_painOf : Nat → Int32) (u_refused : Nat → Int32) (u_owned : Nat → Int64) (u_litIn : Nat → Int64) (u_shapes : Nat → Int32) (w_length : Int32) (w_bits : Int32) (w_letters : Nat → Int32) (v3 : Int32) (v4 : Int64) (v6 : Int32) (v7 : Int32) : Nat → (Nat → Int32) → (Nat → Int32) → (Nat → Int32) → (Nat → Int32) → (Nat → Int32) → (Nat → Int32) → (Nat → Int32) → Int32 → Option ((Nat → Int32) × (Nat → Int32) × (Nat → Int32) × (Nat → Int32) × (Nat → Int32) × (Nat → Int32) × (Nat → Int32))
  | 0, _, _, _, _, _, _, _, _ => none
  | n + 1, q_painsOfCell, q_painsAt_0, q_painsAt_1, q_painsAt_2, q_shapeAt_0, q_shapeAt_1, q_shapeAt_2, v8 => (f_X3_mostToRight fu q_places_boxes q_places_lastColumn v6).bind fun t53 => if t53 < v8 then (rec28 q_painsOfCell q_painsAt_0 q_painsAt_1 q_painsAt_2 q_shapeAt_0 q_shapeAt_1 q_shapeAt_2 (v7 + (1 : Int32))) else (mm_rd w_letters 3 v6 fun x69 => (f_X1_shapeBox fu q_deviations q_painsOfCell q_painsAt_0 q_painsAt_1 q_painsAt_2 q_shapeAt_0 q_shapeAt_1 q_shapeAt_2 u_slackNow u_tenants u_letters u_kinds u_painOf u_owned u_litIn u_shapes v6 x69 (((12 : Int32) * v7) + v8) v3 v4).bind fun t81 => (X1_shapeAllBoxes_L45 fu rec16 rec28 q_places_boxes q_places_lastColumn q_deviations u_high u_slackNow u_tenants u_letters u_kinds u_painOf u_refused u_owned u_litIn u_shapes w_length w_bits w_letters v3 v4 v6 v7 n) t81.1 t81.2.1 t81.2.2.1 t81.2.2.2.1 t81.2.2.2.2.1 t81.2.2.2.2.2.1 t81.2.2.2.2.2.2 (v8 + (1 : Int32)))
set_option maxHeartbeats 4000000 in
set_option maxRecDepth 100000 in
theorem s_X1_shapeAllBoxes_L45 {fu : Nat} {q_pains : Int32} {q_windows : Nat → Int32} {q_shapes : Nat → Int32} {q_places_y : Int32} {q_places_boxes : Int32} {q_places_lastColumn : Int32} {q_places_lastTop : Int32} {q_places_columns : Nat → Int32} {q_deviations : Nat → Int32} {u_wide : Int32} {u_high : Int32} {u_slackNow : Int32} {u_tenants : Int32} {u_letters : Int32} {u_readings : Int32} {u_kinds : Nat → Int32} {u_painOf : Nat → Int32} {u_payFor : Nat → Int32} {u_refused : Nat → Int32} {u_owned : Nat → Int64} {u_litIn : Nat → Int64} {u_shapes : Nat → Int32} {u_readAt : Nat → Int32} {u_meant : Nat → Int32} {u_readSo : Nat → Int32} {w_length : Int32} {w_bits : Int32} {w_letters : Nat → Int32} {r : (Nat → Int32) × (Nat → Int32) × (Nat → Int32) × (Nat → Int32) × (Nat → Int32) × (Nat → Int32) × (Nat → Int32)} {rec16 : (Nat → Int32) → (Nat → Int32) → (Nat → Int32) → (Nat → Int32) → (Nat → Int32) → (Nat → Int32) → (Nat → Int32) → Int32 → Option ((Nat → Int32) × (Nat → Int32) × (Nat → Int32) × (Nat → Int32) × (Nat → Int32) × (Nat → Int32) × (Nat → Int32))} {rec28 : (Nat → Int32) → (Nat → Int32) → (Nat → Int32) → (Nat → Int32) → (Nat → Int32) → (Nat → Int32) → (Nat → Int32) → Int32 → Option ((Nat → Int32) × (Nat → Int32) × (Nat → Int32) × (Nat → Int32) × (Nat → Int32) × (Nat → Int32) × (Nat → Int32))} {v3 : Int32} {v4 : Int64} {v6 : Int32} {v7 : Int32} (hr16 : ∀ (z_q_painsOfCell : Nat → Int32) (z_q_painsAt_0 : Nat → Int32) (z_q_painsAt_1 : Nat → Int32) (z_q_painsAt_2 : Nat → Int32) (z_q_shapeAt_0 : Nat → Int32) (z_q_shapeAt_1 : Nat → Int32) (z_q_shapeAt_2 : Nat → Int32) (y6 : Int32), rec16 z_q_painsOfCell z_q_painsAt_0 z_q_painsAt_1 z_q_painsAt_2 z_q_shapeAt_0 z_q_shapeAt_1 z_q_shapeAt_2 y6 = some r → mm_Wp mX1_shapeAllBoxes (mm_R (P_X1_shapeAllBoxes q_pains q_windows q_shapes q_places_y q_places_boxes q_places_lastColumn q_places_lastTop q_places_columns q_deviations u_wide u_high u_slackNow u_tenants u_letters u_readings u_kinds u_painOf u_payFor u_refused u_owned u_litIn u_shapes u_readAt u_meant u_readSo w_length w_bits w_letters r)) 0 0 16 [(0, .ref 0), (1, .ref 15), (2, .ref 26), (3, .int v3), (4, .long v4), (6, .int y6)] [] (W_X1_X5_X6 q_pains q_windows q_shapes q_places_y q_places_boxes q_places_lastColumn q_places_lastTop q_places_columns q_deviations z_q_painsOfCell z_q_painsAt_0 z_q_painsAt_1 z_q_painsAt_2 z_q_shapeAt_0 z_q_shapeAt_1 z_q_shapeAt_2 u_wide u_high u_slackNow u_tenants u_letters u_readings u_kinds u_painOf u_payFor u_refused u_owned u_litIn u_shapes u_readAt u_meant u_readSo w_length w_bits w_letters)) (hr28 : ∀ (z_q_painsOfCell : Nat → Int32) (z_q_painsAt_0 : Nat → Int32) (z_q_painsAt_1 : Nat → Int32) (z_q_painsAt_2 : Nat → Int32) (z_q_shapeAt_0 : Nat → Int32) (z_q_shapeAt_1 : Nat → Int32) (z_q_shapeAt_2 : Nat → Int32) (y7 : Int32), rec28 z_q_painsOfCell z_q_painsAt_0 z_q_painsAt_1 z_q_painsAt_2 z_q_shapeAt_0 z_q_shapeAt_1 z_q_shapeAt_2 y7 = some r → mm_Wp mX1_shapeAllBoxes (mm_R (P_X1_shapeAllBoxes q_pains q_windows q_shapes q_places_y q_places_boxes q_places_lastColumn q_places_lastTop q_places_columns q_deviations u_wide u_high u_slackNow u_tenants u_letters u_readings u_kinds u_painOf u_payFor u_refused u_owned u_litIn u_shapes u_readAt u_meant u_readSo w_length w_bits w_letters r)) 0 0 28 [(0, .ref 0), (1, .ref 15), (2, .ref 26), (3, .int v3), (4, .long v4), (6, .int v6), (7, .int y7)] [] (W_X1_X5_X6 q_pains q_windows q_shapes q_places_y q_places_boxes q_places_lastColumn q_places_lastTop q_places_columns q_deviations z_q_painsOfCell z_q_painsAt_0 z_q_painsAt_1 z_q_painsAt_2 z_q_shapeAt_0 z_q_shapeAt_1 z_q_shapeAt_2 u_wide u_high u_slackNow u_tenants u_letters u_readings u_kinds u_painOf u_payFor u_refused u_owned u_litIn u_shapes u_readAt u_meant u_readSo w_length w_bits w_letters)) : ∀ (n : Nat) (q_painsOfCell : Nat → Int32) (q_painsAt_0 : Nat → Int32) (q_painsAt_1 : Nat → Int32) (q_painsAt_2 : Nat → Int32) (q_shapeAt_0 : Nat → Int32) (q_shapeAt_1 : Nat → Int32) (q_shapeAt_2 : Nat → Int32) (v8 : Int32), X1_shapeAllBoxes_L45 fu rec16 rec28 q_places_boxes q_places_lastColumn q_deviations u_high u_slackNow u_tenants u_letters u_kinds u_painOf u_refused u_owned u_litIn u_shapes w_length w_bits w_letters v3 v4 v6 v7 n q_painsOfCell q_painsAt_0 q_painsAt_1 q_painsAt_2 q_shapeAt_0 q_shapeAt_1 q_shapeAt_2 v8 = some r → mm_Wp mX1_shapeAllBoxes (mm_R (P_X1_shapeAllBoxes q_pains q_windows q_shapes q_places_y q_places_boxes q_places_lastColumn q_places_lastTop q_places_columns q_deviations u_wide u_high u_slackNow u_tenants u_letters u_readings u_kinds u_painOf u_payFor u_refused u_owned u_litIn u_shapes u_readAt u_meant u_readSo w_length w_bits w_letters r)) 0 0 45 [(0, .ref 0), (1, .ref 15), (2, .ref 26), (3, .int v3), (4, .long v4), (6, .int v6), (7, .int v7), (8, .int v8)] [] (W_X1_X5_X6 q_pains q_windows q_shapes q_places_y q_places_boxes q_places_lastColumn q_places_lastTop q_places_columns q_deviations q_painsOfCell q_painsAt_0 q_painsAt_1 q_painsAt_2 q_shapeAt_0 q_shapeAt_1 q_shapeAt_2 u_wide u_high u_slackNow u_tenants u_letters u_readings u_kinds u_painOf u_payFor u_refused u_owned u_litIn u_shapes u_readAt u_meant u_readSo w_length w_bits w_letters) := by
  intro n
  induction n with
  | zero =>
    intro q_painsOfCell q_painsAt_0 q_painsAt_1 q_painsAt_2 q_shapeAt_0 q_shapeAt_1 q_shapeAt_2 v8 h
    rw [X1_shapeAllBoxes_L45] at h
    cases h
  | succ n hr45 =>
    intro q_painsOfCell q_painsAt_0 q_painsAt_1 q_painsAt_2 q_shapeAt_0 q_shapeAt_1 q_shapeAt_2 v8 h
    rw [X1_shapeAllBoxes_L45] at h
    refine mm_iload 7 dX1_shapeAllBoxes_45 rfl (pc' := 47) rfl ?_
    refine mm_aload_n 0 dX1_shapeAllBoxes_47 rfl rfl (pc' := 48) rfl ?_
    refine mm_getf fG_X1_25 dX1_shapeAllBoxes_48 rfl rfl (pc' := 51) rfl ?_
    refine mm_iload 5 dX1_shapeAllBoxes_51 rfl (pc' := 53) rfl ?_
    obtain ⟨t53, h53, h⟩ := mm_bd h
    refine mm_callV (As := [.int v6]) (rest := [.int v8]) (av := [.ref 0, .int v6]) (wc := (W_X3 q_places_y q_places_boxes q_places_lastColumn q_places_lastTop q_places_columns)) (is := [3, 4]) cV_X1_85 (ok_X3_mostToRight h53) ⟨rfl, rfl, Nat.le_of_ble_eq_true rfl, Nat.le_of_ble_eq_true rfl⟩ dX1_shapeAllBoxes_53 rfl rfl rfl rfl rfl ⟨rfl, by decide, by decide⟩ (by rintro _ _ ⟨-, rfl⟩; rfl) (Nat.le_of_ble_eq_true rfl) ⟨Nat.le_of_ble_eq_true rfl, Nat.le_of_ble_eq_true rfl⟩ (pc' := 56) rfl ?_
    rintro rv w ⟨rfl, rfl⟩
    show mm_Wp _ _ _ _ 56 [(0, .ref 0), (1, .ref 15), (2, .ref 26), (3, .int v3), (4, .long v4), (6, .int v6), (7, .int v7), (8, .int v8)] [.int t53, .int v8] (W_X1_X5_X6 q_pains q_windows q_shapes q_places_y q_places_boxes q_places_lastColumn q_places_lastTop q_places_columns q_deviations q_painsOfCell q_painsAt_0 q_painsAt_1 q_painsAt_2 q_shapeAt_0 q_shapeAt_1 q_shapeAt_2 u_wide u_high u_slackNow u_tenants u_letters u_readings u_kinds u_painOf u_payFor u_refused u_owned u_litIn u_shapes u_readAt u_meant u_readSo w_length w_bits w_letters)
    clear h53
    refine mm_icmp_gt (tgt := 90) dX1_shapeAllBoxes_56 (by decide) (pc' := 59) rfl (fun c => ?_) (fun c => ?_)
    · replace h := mm_it h c
      clear c
      refine mm_iinc 6 dX1_shapeAllBoxes_90 rfl ki_1 (by decide) (l' := [(7, .int (v7 + (1 : Int32))), (0, .ref 0), (1, .ref 15), (2, .ref 26), (3, .int v3), (4, .long v4), (6, .int v6), (8, .int v8)]) rfl (pc' := 93) rfl ?_
      refine mm_goto (tgt := 28) dX1_shapeAllBoxes_93 (by decide) ?_
      exact mm_sub [1, 2, 3, 4, 5, 6, 0] rfl (hr28 _ _ _ _ _ _ _ _ h)
    · replace h := mm_if h c
      clear c
      refine mm_aload_n 0 dX1_shapeAllBoxes_59 rfl rfl (pc' := 60) rfl ?_
      refine mm_aload_n 1 dX1_shapeAllBoxes_60 rfl rfl (pc' := 61) rfl ?_
      refine mm_iload 5 dX1_shapeAllBoxes_61 rfl (pc' := 63) rfl ?_
      refine mm_aload_n 2 dX1_shapeAllBoxes_63 rfl rfl (pc' := 64) rfl ?_
      refine mm_getf fG_X1_88 dX1_shapeAllBoxes_64 rfl rfl (pc' := 67) rfl ?_
      refine mm_iload 5 dX1_shapeAllBoxes_67 rfl (pc' := 69) rfl ?_
      obtain ⟨x69, c69, e69, h⟩ := mm_rd_of h
      refine mm_iald dX1_shapeAllBoxes_69 rfl c69 e69 (pc' := 70) rfl ?_
      clear c69 e69
      refine mm_bipush dX1_shapeAllBoxes_70 kb_12 (pc' := 72) rfl ?_
      refine mm_iload 6 dX1_shapeAllBoxes_72 rfl (pc' := 74) rfl ?_
      refine mm_imul dX1_shapeAllBoxes_74 (pc' := 75) rfl ?_
      refine mm_iload 7 dX1_shapeAllBoxes_75 rfl (pc' := 77) rfl ?_
      refine mm_iadd dX1_shapeAllBoxes_77 (pc' := 78) rfl ?_
      refine mm_iload_n 3 dX1_shapeAllBoxes_78 rfl rfl (pc' := 79) rfl ?_
      refine mm_lload 4 dX1_shapeAllBoxes_79 rfl (pc' := 81) rfl ?_
      obtain ⟨t81, h81, h⟩ := mm_bd h
      refine mm_call0 (As := [.ref 15, .int v6, .int x69, .int (((12 : Int32) * v7) + v8), .int v3, .long v4]) (rest := []) cV_X1_91 (ok_X1_shapeBox h81) ⟨rfl, rfl, Nat.le_of_ble_eq_true rfl, Nat.le_of_ble_eq_true rfl⟩ dX1_shapeAllBoxes_81 rfl rfl rfl rfl (by rintro _ _ ⟨-, rfl⟩; rfl) (Nat.le_of_ble_eq_true rfl) ⟨Nat.le_of_ble_eq_true rfl, Nat.le_of_ble_eq_true rfl⟩ (pc' := 84) rfl ?_
      rintro rv w ⟨rfl, rfl⟩
      show mm_Wp _ _ _ _ 84 [(0, .ref 0), (1, .ref 15), (2, .ref 26), (3, .int v3), (4, .long v4), (6, .int v6), (7, .int v7), (8, .int v8)] [] (W_X1_X5_X6 q_pains q_windows q_shapes q_places_y q_places_boxes q_places_lastColumn q_places_lastTop q_places_columns q_deviations t81.1 t81.2.1 t81.2.2.1 t81.2.2.2.1 t81.2.2.2.2.1 t81.2.2.2.2.2.1 t81.2.2.2.2.2.2 u_wide u_high u_slackNow u_tenants u_letters u_readings u_kinds u_painOf u_payFor u_refused u_owned u_litIn u_shapes u_readAt u_meant u_readSo w_length w_bits w_letters)
      clear h81
      refine mm_iinc 7 dX1_shapeAllBoxes_84 rfl ki_1 (by decide) (l' := [(8, .int (v8 + (1 : Int32))), (0, .ref 0), (1, .ref 15), (2, .ref 26), (3, .int v3), (4, .long v4), (6, .int v6), (7, .int v7)]) rfl (pc' := 87) rfl ?_
      refine mm_goto (tgt := 45) dX1_shapeAllBoxes_87 (by decide) ?_
      exact mm_sub [1, 2, 3, 4, 5, 6, 7, 0] rfl (hr45 _ _ _ _ _ _ _ _ h)
def X1_shapeAllBoxes_L28 (fu : Nat) (rec16 : (Nat → Int32) → (Nat → Int32) → (Nat → Int32) → (Nat → Int32) → (Nat → Int32) → (Nat → Int32) → (Nat → Int32) → Int32 → Option ((Nat → Int32) × (Nat → Int32) × (Nat → Int32) × (Nat → Int32) × (Nat → Int32) × (Nat → Int32) × (Nat → Int32))) (q_places_boxes : Int32) (q_places_lastColumn : Int32) (q_deviations : Nat → Int32) (u_high : Int32) (u_slackNow : Int32) (u_tenants : Int32) (u_letters : Int32) (u_kinds : Nat → Int32) (u_painOf : Nat → Int32) (u_refused : Nat → Int32) (u_owned : Nat → Int64) (u_litIn : Nat → Int64) (u_shapes : Nat → Int32) (w_length : Int32) (w_bits : Int32) (w_letters : Nat → Int32) (v3 : Int32) (v4 : Int64) (v6 : Int32) : Nat → (Nat → Int32) → (Nat → Int32) → (Nat → Int32) → (Nat → Int32) → (Nat → Int32) → (Nat → Int32) → (Nat → Int32) → Int32 → Option ((Nat → Int32) × (Nat → Int32) × (Nat → Int32) × (Nat → Int32) × (Nat → Int32) × (Nat → Int32) × (Nat → Int32))
  | 0, _, _, _, _, _, _, _, _ => none
  | n + 1, q_painsOfCell, q_painsAt_0, q_painsAt_1, q_painsAt_2, q_shapeAt_0, q_shapeAt_1, q_shapeAt_2, v7 => if (u_high - (4 : Int32)) < v7 then (rec16 q_painsOfCell q_painsAt_0 q_painsAt_1 q_painsAt_2 q_shapeAt_0 q_shapeAt_1 q_shapeAt_2 (v6 + (1 : Int32))) else (X1_shapeAllBoxes_L45 fu rec16 (X1_shapeAllBoxes_L28 fu rec16 q_places_boxes q_places_lastColumn q_deviations u_high u_slackNow u_tenants u_letters u_kinds u_painOf u_refused u_owned u_litIn u_shapes w_length w_bits w_letters v3 v4 v6 n) q_places_boxes q_places_lastColumn q_deviations u_high u_slackNow u_tenants u_letters u_kinds u_painOf u_refused u_owned u_litIn u_shapes w_length w_bits w_letters v3 v4 v6 v7 fu q_painsOfCell q_painsAt_0 q_painsAt_1 q_painsAt_2 q_shapeAt_0 q_shapeAt_1 q_shapeAt_2 ((4 : Int32) * v6))
set_option maxHeartbeats 4000000 in
set_option maxRecDepth 100000 in
theorem s_X1_shapeAllBoxes_L28 {fu : Nat} {q_pains : Int32} {q_windows : Nat → Int32} {q_shapes : Nat → Int32} {q_places_y : Int32} {q_places_boxes : Int32} {q_places_lastColumn : Int32} {q_places_lastTop : Int32} {q_places_columns : Nat → Int32} {q_deviations : Nat → Int32} {u_wide : Int32} {u_high : Int32} {u_slackNow : Int32} {u_tenants : Int32} {u_letters : Int32} {u_readings : Int32} {u_kinds : Nat → Int32} {u_painOf : Nat → Int32} {u_payFor : Nat → Int32} {u_refused : Nat → Int32} {u_owned : Nat → Int64} {u_litIn : Nat → Int64} {u_shapes : Nat → Int32} {u_readAt : Nat → Int32} {u_meant : Nat → Int32} {u_readSo : Nat → Int32} {w_length : Int32} {w_bits : Int32} {w_letters : Nat → Int32} {r : (Nat → Int32) × (Nat → Int32) × (Nat → Int32) × (Nat → Int32) × (Nat → Int32) × (Nat → Int32) × (Nat → Int32)} {rec16 : (Nat → Int32) → (Nat → Int32) → (Nat → Int32) → (Nat → Int32) → (Nat → Int32) → (Nat → Int32) → (Nat → Int32) → Int32 → Option ((Nat → Int32) × (Nat → Int32) × (Nat → Int32) × (Nat → Int32) × (Nat → Int32) × (Nat → Int32) × (Nat → Int32))} {v3 : Int32} {v4 : Int64} {v6 : Int32} (hr16 : ∀ (z_q_painsOfCell : Nat → Int32) (z_q_painsAt_0 : Nat → Int32) (z_q_painsAt_1 : Nat → Int32) (z_q_painsAt_2 : Nat → Int32) (z_q_shapeAt_0 : Nat → Int32) (z_q_shapeAt_1 : Nat → Int32) (z_q_shapeAt_2 : Nat → Int32) (y6 : Int32), rec16 z_q_painsOfCell z_q_painsAt_0 z_q_painsAt_1 z_q_painsAt_2 z_q_shapeAt_0 z_q_shapeAt_1 z_q_shapeAt_2 y6 = some r → mm_Wp mX1_shapeAllBoxes (mm_R (P_X1_shapeAllBoxes q_pains q_windows q_shapes q_places_y q_places_boxes q_places_lastColumn q_places_lastTop q_places_columns q_deviations u_wide u_high u_slackNow u_tenants u_letters u_readings u_kinds u_painOf u_payFor u_refused u_owned u_litIn u_shapes u_readAt u_meant u_readSo w_length w_bits w_letters r)) 0 0 16 [(0, .ref 0), (1, .ref 15), (2, .ref 26), (3, .int v3), (4, .long v4), (6, .int y6)] [] (W_X1_X5_X6 q_pains q_windows q_shapes q_places_y q_places_boxes q_places_lastColumn q_places_lastTop q_places_columns q_deviations z_q_painsOfCell z_q_painsAt_0 z_q_painsAt_1 z_q_painsAt_2 z_q_shapeAt_0 z_q_shapeAt_1 z_q_shapeAt_2 u_wide u_high u_slackNow u_tenants u_letters u_readings u_kinds u_painOf u_payFor u_refused u_owned u_litIn u_shapes u_readAt u_meant u_readSo w_length w_bits w_letters)) : ∀ (n : Nat) (q_painsOfCell : Nat → Int32) (q_painsAt_0 : Nat → Int32) (q_painsAt_1 : Nat → Int32) (q_painsAt_2 : Nat → Int32) (q_shapeAt_0 : Nat → Int32) (q_shapeAt_1 : Nat → Int32) (q_shapeAt_2 : Nat → Int32) (v7 : Int32), X1_shapeAllBoxes_L28 fu rec16 q_places_boxes q_places_lastColumn q_deviations u_high u_slackNow u_tenants u_letters u_kinds u_painOf u_refused u_owned u_litIn u_shapes w_length w_bits w_letters v3 v4 v6 n q_painsOfCell q_painsAt_0 q_painsAt_1 q_painsAt_2 q_shapeAt_0 q_shapeAt_1 q_shapeAt_2 v7 = some r → mm_Wp mX1_shapeAllBoxes (mm_R (P_X1_shapeAllBoxes q_pains q_windows q_shapes q_places_y q_places_boxes q_places_lastColumn q_places_lastTop q_places_columns q_deviations u_wide u_high u_slackNow u_tenants u_letters u_readings u_kinds u_painOf u_payFor u_refused u_owned u_litIn u_shapes u_readAt u_meant u_readSo w_length w_bits w_letters r)) 0 0 28 [(0, .ref 0), (1, .ref 15), (2, .ref 26), (3, .int v3), (4, .long v4), (6, .int v6), (7, .int v7)] [] (W_X1_X5_X6 q_pains q_windows q_shapes q_places_y q_places_boxes q_places_lastColumn q_places_lastTop q_places_columns q_deviations q_painsOfCell q_painsAt_0 q_painsAt_1 q_painsAt_2 q_shapeAt_0 q_shapeAt_1 q_shapeAt_2 u_wide u_high u_slackNow u_tenants u_letters u_readings u_kinds u_painOf u_payFor u_refused u_owned u_litIn u_shapes u_readAt u_meant u_readSo w_length w_bits w_letters) := by
  intro n
  induction n with
  | zero =>
    intro q_painsOfCell q_painsAt_0 q_painsAt_1 q_painsAt_2 q_shapeAt_0 q_shapeAt_1 q_shapeAt_2 v7 h
    rw [X1_shapeAllBoxes_L28] at h
    cases h
  | succ n hr28 =>
    intro q_painsOfCell q_painsAt_0 q_painsAt_1 q_painsAt_2 q_shapeAt_0 q_shapeAt_1 q_shapeAt_2 v7 h
    rw [X1_shapeAllBoxes_L28] at h
    refine mm_iload 6 dX1_shapeAllBoxes_28 rfl (pc' := 30) rfl ?_
    refine mm_aload_n 1 dX1_shapeAllBoxes_30 rfl rfl (pc' := 31) rfl ?_
    refine mm_getf fG_X1_82 dX1_shapeAllBoxes_31 rfl rfl (pc' := 34) rfl ?_
    refine mm_iconst dX1_shapeAllBoxes_34 ki_4 (pc' := 35) rfl ?_
    refine mm_isub dX1_shapeAllBoxes_35 (pc' := 36) rfl ?_
    refine mm_icmp_gt (tgt := 96) dX1_shapeAllBoxes_36 (by decide) (pc' := 39) rfl (fun c => ?_) (fun c => ?_)
    · replace h := mm_it h c
      clear c
      refine mm_iinc 5 dX1_shapeAllBoxes_96 rfl ki_1 (by decide) (l' := [(6, .int (v6 + (1 : Int32))), (0, .ref 0), (1, .ref 15), (2, .ref 26), (3, .int v3), (4, .long v4), (7, .int v7)]) rfl (pc' := 99) rfl ?_
      refine mm_goto (tgt := 16) dX1_shapeAllBoxes_99 (by decide) ?_
      exact mm_sub [1, 2, 3, 4, 5, 0] rfl (hr16 _ _ _ _ _ _ _ _ h)
    · replace h := mm_if h c
      clear c
      refine mm_iconst dX1_shapeAllBoxes_39 ki_4 (pc' := 40) rfl ?_
      refine mm_iload 5 dX1_shapeAllBoxes_40 rfl (pc' := 42) rfl ?_
      refine mm_imul dX1_shapeAllBoxes_42 (pc' := 43) rfl ?_
      refine mm_istore dX1_shapeAllBoxes_43 (by decide) (l' := [(8, .int ((4 : Int32) * v6)), (0, .ref 0), (1, .ref 15), (2, .ref 26), (3, .int v3), (4, .long v4), (6, .int v6), (7, .int v7)]) rfl (pc' := 45) rfl ?_
      exact mm_sub [1, 2, 3, 4, 5, 6, 7, 0] rfl (s_X1_shapeAllBoxes_L45 (hr16 := hr16) (hr28 := hr28) _ _ _ _ _ _ _ _ _ h)
def X1_shapeAllBoxes_L16 (fu : Nat)  (q_places_boxes : Int32) (q_places_lastColumn : Int32) (q_deviations : Nat → Int32) (u_high : Int32) (u_slackNow : Int32) (u_tenants : Int32) (u_letters : Int32) (u_kinds : Nat → Int32) (u_painOf : Nat → Int32) (u_refused : Nat → Int32) (u_owned : Nat → Int64) (u_litIn : Nat → Int64) (u_shapes : Nat → Int32) (w_length : Int32) (w_bits : Int32) (w_letters : Nat → Int32) (v3 : Int32) (v4 : Int64) : Nat → (Nat → Int32) → (Nat → Int32) → (Nat → Int32) → (Nat → Int32) → (Nat → Int32) → (Nat → Int32) → (Nat → Int32) → Int32 → Option ((Nat → Int32) × (Nat → Int32) × (Nat → Int32) × (Nat → Int32) × (Nat → Int32) × (Nat → Int32) × (Nat → Int32))
  | 0, _, _, _, _, _, _, _, _ => none
  | n + 1, q_painsOfCell, q_painsAt_0, q_painsAt_1, q_painsAt_2, q_shapeAt_0, q_shapeAt_1, q_shapeAt_2, v6 => if w_length ≤ v6 then (some (q_painsOfCell, q_painsAt_0, q_painsAt_1, q_painsAt_2, q_shapeAt_0, q_shapeAt_1, q_shapeAt_2)) else (X1_shapeAllBoxes_L28 fu (X1_shapeAllBoxes_L16 fu q_places_boxes q_places_lastColumn q_deviations u_high u_slackNow u_tenants u_letters u_kinds u_painOf u_refused u_owned u_litIn u_shapes w_length w_bits w_letters v3 v4 n) q_places_boxes q_places_lastColumn q_deviations u_high u_slackNow u_tenants u_letters u_kinds u_painOf u_refused u_owned u_litIn u_shapes w_length w_bits w_letters v3 v4 v6 fu q_painsOfCell q_painsAt_0 q_painsAt_1 q_painsAt_2 q_shapeAt_0 q_shapeAt_1 q_shapeAt_2 (0 : Int32))
set_option maxHeartbeats 4000000 in
set_option maxRecDepth 100000 in
theorem s_X1_shapeAllBoxes_L16 {fu : Nat} {q_pains : Int32} {q_windows : Nat → Int32} {q_shapes : Nat → Int32} {q_places_y : Int32} {q_places_boxes : Int32} {q_places_lastColumn : Int32} {q_places_lastTop : Int32} {q_places_columns : Nat → Int32} {q_deviations : Nat → Int32} {u_wide : Int32} {u_high : Int32} {u_slackNow : Int32} {u_tenants : Int32} {u_letters : Int32} {u_readings : Int32} {u_kinds : Nat → Int32} {u_painOf : Nat → Int32} {u_payFor : Nat → Int32} {u_refused : Nat → Int32} {u_owned : Nat → Int64} {u_litIn : Nat → Int64} {u_shapes : Nat → Int32} {u_readAt : Nat → Int32} {u_meant : Nat → Int32} {u_readSo : Nat → Int32} {w_length : Int32} {w_bits : Int32} {w_letters : Nat → Int32} {r : (Nat → Int32) × (Nat → Int32) × (Nat → Int32) × (Nat → Int32) × (Nat → Int32) × (Nat → Int32) × (Nat → Int32)} {v3 : Int32} {v4 : Int64} : ∀ (n : Nat) (q_painsOfCell : Nat → Int32) (q_painsAt_0 : Nat → Int32) (q_painsAt_1 : Nat → Int32) (q_painsAt_2 : Nat → Int32) (q_shapeAt_0 : Nat → Int32) (q_shapeAt_1 : Nat → Int32) (q_shapeAt_2 : Nat → Int32) (v6 : Int32), X1_shapeAllBoxes_L16 fu q_places_boxes q_places_lastColumn q_deviations u_high u_slackNow u_tenants u_letters u_kinds u_painOf u_refused u_owned u_litIn u_shapes w_length w_bits w_letters v3 v4 n q_painsOfCell q_painsAt_0 q_painsAt_1 q_painsAt_2 q_shapeAt_0 q_shapeAt_1 q_shapeAt_2 v6 = some r → mm_Wp mX1_shapeAllBoxes (mm_R (P_X1_shapeAllBoxes q_pains q_windows q_shapes q_places_y q_places_boxes q_places_lastColumn q_places_lastTop q_places_columns q_deviations u_wide u_high u_slackNow u_tenants u_letters u_readings u_kinds u_painOf u_payFor u_refused u_owned u_litIn u_shapes u_readAt u_meant u_readSo w_length w_bits w_letters r)) 0 0 16 [(0, .ref 0), (1, .ref 15), (2, .ref 26), (3, .int v3), (4, .long v4), (6, .int v6)] [] (W_X1_X5_X6 q_pains q_windows q_shapes q_places_y q_places_boxes q_places_lastColumn q_places_lastTop q_places_columns q_deviations q_painsOfCell q_painsAt_0 q_painsAt_1 q_painsAt_2 q_shapeAt_0 q_shapeAt_1 q_shapeAt_2 u_wide u_high u_slackNow u_tenants u_letters u_readings u_kinds u_painOf u_payFor u_refused u_owned u_litIn u_shapes u_readAt u_meant u_readSo w_length w_bits w_letters) := by
  intro n
  induction n with
  | zero =>
    intro q_painsOfCell q_painsAt_0 q_painsAt_1 q_painsAt_2 q_shapeAt_0 q_shapeAt_1 q_shapeAt_2 v6 h
    rw [X1_shapeAllBoxes_L16] at h
    cases h
  | succ n hr16 =>
    intro q_painsOfCell q_painsAt_0 q_painsAt_1 q_painsAt_2 q_shapeAt_0 q_shapeAt_1 q_shapeAt_2 v6 h
    rw [X1_shapeAllBoxes_L16] at h
    refine mm_iload 5 dX1_shapeAllBoxes_16 rfl (pc' := 18) rfl ?_
    refine mm_aload_n 2 dX1_shapeAllBoxes_18 rfl rfl (pc' := 19) rfl ?_
    refine mm_getf fG_X1_47 dX1_shapeAllBoxes_19 rfl rfl (pc' := 22) rfl ?_
    refine mm_icmp_ge (tgt := 102) dX1_shapeAllBoxes_22 (by decide) (pc' := 25) rfl (fun c => ?_) (fun c => ?_)
    · replace h := mm_it h c
      clear c
      have h9 := Option.some.inj h
      subst h9
      exact mm_vret rfl dX1_shapeAllBoxes_102 ⟨rfl, rfl⟩
    · replace h := mm_if h c
      clear c
      refine mm_iconst dX1_shapeAllBoxes_25 ki_0 (pc' := 26) rfl ?_
      refine mm_istore dX1_shapeAllBoxes_26 (by decide) (l' := [(7, .int (0 : Int32)), (0, .ref 0), (1, .ref 15), (2, .ref 26), (3, .int v3), (4, .long v4), (6, .int v6)]) rfl (pc' := 28) rfl ?_
      exact mm_sub [1, 2, 3, 4, 5, 6, 0] rfl (s_X1_shapeAllBoxes_L28 (hr16 := hr16) _ _ _ _ _ _ _ _ _ h)
def f_X1_shapeAllBoxes (fu : Nat) (q_places_boxes : Int32) (q_places_lastColumn : Int32) (q_deviations : Nat → Int32) (q_painsOfCell : Nat → Int32) (q_painsAt_0 : Nat → Int32) (q_painsAt_1 : Nat → Int32) (q_painsAt_2 : Nat → Int32) (q_shapeAt_0 : Nat → Int32) (q_shapeAt_1 : Nat → Int32) (q_shapeAt_2 : Nat → Int32) (u_high : Int32) (u_slackNow : Int32) (u_tenants : Int32) (u_letters : Int32) (u_kinds : Nat → Int32) (u_painOf : Nat → Int32) (u_refused : Nat → Int32) (u_owned : Nat → Int64) (u_litIn : Nat → Int64) (u_shapes : Nat → Int32) (w_length : Int32) (w_bits : Int32) (w_letters : Nat → Int32) (v3 : Int32) : Option ((Nat → Int32) × (Nat → Int32) × (Nat → Int32) × (Nat → Int32) × (Nat → Int32) × (Nat → Int32) × (Nat → Int32)) := (f_X5_changeable fu u_tenants u_kinds u_refused u_owned u_litIn v3 w_bits (63 : Int32)).bind fun t8 => X1_shapeAllBoxes_L16 fu q_places_boxes q_places_lastColumn q_deviations u_high u_slackNow u_tenants u_letters u_kinds u_painOf u_refused u_owned u_litIn u_shapes w_length w_bits w_letters v3 t8 fu q_painsOfCell q_painsAt_0 q_painsAt_1 q_painsAt_2 q_shapeAt_0 q_shapeAt_1 q_shapeAt_2 (0 : Int32)
set_option maxHeartbeats 4000000 in
set_option maxRecDepth 100000 in
theorem ok_X1_shapeAllBoxes {fu : Nat} {q_pains : Int32} {q_windows : Nat → Int32} {q_shapes : Nat → Int32} {q_places_y : Int32} {q_places_boxes : Int32} {q_places_lastColumn : Int32} {q_places_lastTop : Int32} {q_places_columns : Nat → Int32} {q_deviations : Nat → Int32} {q_painsOfCell : Nat → Int32} {q_painsAt_0 : Nat → Int32} {q_painsAt_1 : Nat → Int32} {q_painsAt_2 : Nat → Int32} {q_shapeAt_0 : Nat → Int32} {q_shapeAt_1 : Nat → Int32} {q_shapeAt_2 : Nat → Int32} {u_wide : Int32} {u_high : Int32} {u_slackNow : Int32} {u_tenants : Int32} {u_letters : Int32} {u_readings : Int32} {u_kinds : Nat → Int32} {u_painOf : Nat → Int32} {u_payFor : Nat → Int32} {u_refused : Nat → Int32} {u_owned : Nat → Int64} {u_litIn : Nat → Int64} {u_shapes : Nat → Int32} {u_readAt : Nat → Int32} {u_meant : Nat → Int32} {u_readSo : Nat → Int32} {w_length : Int32} {w_bits : Int32} {w_letters : Nat → Int32} {r : (Nat → Int32) × (Nat → Int32) × (Nat → Int32) × (Nat → Int32) × (Nat → Int32) × (Nat → Int32) × (Nat → Int32)} {v3 : Int32} (h : f_X1_shapeAllBoxes fu q_places_boxes q_places_lastColumn q_deviations q_painsOfCell q_painsAt_0 q_painsAt_1 q_painsAt_2 q_shapeAt_0 q_shapeAt_1 q_shapeAt_2 u_high u_slackNow u_tenants u_letters u_kinds u_painOf u_refused u_owned u_litIn u_shapes w_length w_bits w_letters v3 = some r) : mm_Ok mX1_shapeAllBoxes [.ref 0, .ref 15, .ref 26, .int v3] (W_X1_X5_X6 q_pains q_windows q_shapes q_places_y q_places_boxes q_places_lastColumn q_places_lastTop q_places_columns q_deviations q_painsOfCell q_painsAt_0 q_painsAt_1 q_painsAt_2 q_shapeAt_0 q_shapeAt_1 q_shapeAt_2 u_wide u_high u_slackNow u_tenants u_letters u_readings u_kinds u_painOf u_payFor u_refused u_owned u_litIn u_shapes u_readAt u_meant u_readSo w_length w_bits w_letters) (P_X1_shapeAllBoxes q_pains q_windows q_shapes q_places_y q_places_boxes q_places_lastColumn q_places_lastTop q_places_columns q_deviations u_wide u_high u_slackNow u_tenants u_letters u_readings u_kinds u_painOf u_payFor u_refused u_owned u_litIn u_shapes u_readAt u_meant u_readSo w_length w_bits w_letters r) := by
  rw [f_X1_shapeAllBoxes] at h
  refine mm_Ok.of pn_X1 (l := [(0, .ref 0), (1, .ref 15), (2, .ref 26), (3, .int v3)]) rfl (Nat.le_of_ble_eq_true rfl) ?_
  refine mm_aload_n 1 dX1_shapeAllBoxes_0 rfl rfl (pc' := 1) rfl ?_
  refine mm_iload_n 3 dX1_shapeAllBoxes_1 rfl rfl (pc' := 2) rfl ?_
  refine mm_aload_n 2 dX1_shapeAllBoxes_2 rfl rfl (pc' := 3) rfl ?_
  refine mm_getf fG_X1_73 dX1_shapeAllBoxes_3 rfl rfl (pc' := 6) rfl ?_
  refine mm_bipush dX1_shapeAllBoxes_6 kb_63 (pc' := 8) rfl ?_
  obtain ⟨t8, h8, h⟩ := mm_bd h
  refine mm_callV (As := [.int v3, .int w_bits, .int (63 : Int32)]) (rest := []) (av := [.ref 0, .int v3, .int w_bits, .int (63 : Int32)]) (wc := (W_X5 u_wide u_high u_slackNow u_tenants u_letters u_readings u_kinds u_painOf u_payFor u_refused u_owned u_litIn u_shapes u_readAt u_meant u_readSo)) (is := [15, 16, 17, 18, 19, 20, 21, 22, 23, 24, 25]) cV_X1_76 (ok_X5_changeable h8) ⟨rfl, rfl, Nat.le_of_ble_eq_true rfl, Nat.le_of_ble_eq_true rfl⟩ dX1_shapeAllBoxes_8 rfl rfl rfl rfl rfl ⟨rfl, by decide, by decide⟩ (by rintro _ _ ⟨-, rfl⟩; rfl) (Nat.le_of_ble_eq_true rfl) ⟨Nat.le_of_ble_eq_true rfl, Nat.le_of_ble_eq_true rfl⟩ (pc' := 11) rfl ?_
  rintro rv w ⟨rfl, rfl⟩
  show mm_Wp _ _ _ _ 11 [(0, .ref 0), (1, .ref 15), (2, .ref 26), (3, .int v3)] [.long t8] (W_X1_X5_X6 q_pains q_windows q_shapes q_places_y q_places_boxes q_places_lastColumn q_places_lastTop q_places_columns q_deviations q_painsOfCell q_painsAt_0 q_painsAt_1 q_painsAt_2 q_shapeAt_0 q_shapeAt_1 q_shapeAt_2 u_wide u_high u_slackNow u_tenants u_letters u_readings u_kinds u_painOf u_payFor u_refused u_owned u_litIn u_shapes u_readAt u_meant u_readSo w_length w_bits w_letters)
  clear h8
  refine mm_lstore dX1_shapeAllBoxes_11 (by decide) (l' := [(4, .long t8), (0, .ref 0), (1, .ref 15), (2, .ref 26), (3, .int v3)]) rfl (pc' := 13) rfl ?_
  refine mm_iconst dX1_shapeAllBoxes_13 ki_0 (pc' := 14) rfl ?_
  refine mm_istore dX1_shapeAllBoxes_14 (by decide) (l' := [(6, .int (0 : Int32)), (4, .long t8), (0, .ref 0), (1, .ref 15), (2, .ref 26), (3, .int v3)]) rfl (pc' := 16) rfl ?_
  exact mm_sub [2, 3, 4, 5, 1, 0] rfl (s_X1_shapeAllBoxes_L16  _ _ _ _ _ _ _ _ _ h)

def P_X1_keepPlace (q_pains : Int32) (q_places_y : Int32) (q_places_boxes : Int32) (q_places_lastColumn : Int32) (q_places_lastTop : Int32) (q_places_columns : Nat → Int32) (q_deviations : Nat → Int32) (q_painsOfCell : Nat → Int32) (q_painsAt_0 : Nat → Int32) (q_painsAt_1 : Nat → Int32) (q_painsAt_2 : Nat → Int32) (q_shapeAt_0 : Nat → Int32) (q_shapeAt_1 : Nat → Int32) (q_shapeAt_2 : Nat → Int32) (u_wide : Int32) (u_high : Int32) (u_slackNow : Int32) (u_tenants : Int32) (u_letters : Int32) (u_readings : Int32) (u_kinds : Nat → Int32) (u_painOf : Nat → Int32) (u_payFor : Nat → Int32) (u_refused : Nat → Int32) (u_owned : Nat → Int64) (u_litIn : Nat → Int64) (u_shapes : Nat → Int32) (u_readAt : Nat → Int32) (u_meant : Nat → Int32) (u_readSo : Nat → Int32) (w_length : Int32) (w_bits : Int32) (w_letters : Nat → Int32) (r : (Nat → Int32) × (Nat → Int32)) : Option Value → mm_W → Prop := fun rv w => rv = none ∧ w = (W_X1_X5_X6 q_pains r.1 r.2 q_places_y q_places_boxes q_places_lastColumn q_places_lastTop q_places_columns q_deviations q_painsOfCell q_painsAt_0 q_painsAt_1 q_painsAt_2 q_shapeAt_0 q_shapeAt_1 q_shapeAt_2 u_wide u_high u_slackNow u_tenants u_letters u_readings u_kinds u_painOf u_payFor u_refused u_owned u_litIn u_shapes u_readAt u_meant u_readSo w_length w_bits w_letters)
def X1_keepPlace_L2 (fu : Nat)  (q_places_y : Int32) (q_places_columns : Nat → Int32) (q_shapeAt_0 : Nat → Int32) (q_shapeAt_1 : Nat → Int32) (q_shapeAt_2 : Nat → Int32) (v1 : Int32) : Nat → (Nat → Int32) → (Nat → Int32) → Int32 → Option ((Nat → Int32) × (Nat → Int32))
  | 0, _, _, _ => none
  | n + 1, q_windows, q_shapes, v2 => if v1 ≤ v2 then (some (q_windows, q_shapes)) else ((f_X3_window fu q_places_y q_places_columns v2).bind fun t17 => mm_ck 3 v2 (if v2 = (0 : Int32) then (mm_rd (upd q_windows v2.toNatClampNeg t17) 3 v2 fun x37 => mm_rd q_shapeAt_0 60 x37 fun x38 => mm_ck 3 v2 ((X1_keepPlace_L2 fu q_places_y q_places_columns q_shapeAt_0 q_shapeAt_1 q_shapeAt_2 v1 n) (upd q_windows v2.toNatClampNeg t17) (upd q_shapes v2.toNatClampNeg x38) (v2 + (1 : Int32)))) else (if v2 = (1 : Int32) then (mm_rd (upd q_windows v2.toNatClampNeg t17) 3 v2 fun x37 => mm_rd q_shapeAt_1 60 x37 fun x38 => mm_ck 3 v2 ((X1_keepPlace_L2 fu q_places_y q_places_columns q_shapeAt_0 q_shapeAt_1 q_shapeAt_2 v1 n) (upd q_windows v2.toNatClampNeg t17) (upd q_shapes v2.toNatClampNeg x38) (v2 + (1 : Int32)))) else (if v2 = (2 : Int32) then (mm_rd (upd q_windows v2.toNatClampNeg t17) 3 v2 fun x37 => mm_rd q_shapeAt_2 60 x37 fun x38 => mm_ck 3 v2 ((X1_keepPlace_L2 fu q_places_y q_places_columns q_shapeAt_0 q_shapeAt_1 q_shapeAt_2 v1 n) (upd q_windows v2.toNatClampNeg t17) (upd q_shapes v2.toNatClampNeg x38) (v2 + (1 : Int32)))) else (none)))))
set_option maxHeartbeats 4000000 in
set_option maxRecDepth 100000 in
theorem s_X1_keepPlace_L2 {fu : Nat} {q_pains : Int32} {q_places_y : Int32} {q_places_boxes : Int32} {q_places_lastColumn : Int32} {q_places_lastTop : Int32} {q_places_columns : Nat → Int32} {q_deviations : Nat → Int32} {q_painsOfCell : Nat → Int32} {q_painsAt_0 : Nat → Int32} {q_painsAt_1 : Nat → Int32} {q_painsAt_2 : Nat → Int32} {q_shapeAt_0 : Nat → Int32} {q_shapeAt_1 : Nat → Int32} {q_shapeAt_2 : Nat → Int32} {u_wide : Int32} {u_high : Int32} {u_slackNow : Int32} {u_tenants : Int32} {u_letters : Int32} {u_readings : Int32} {u_kinds : Nat → Int32} {u_painOf : Nat → Int32} {u_payFor : Nat → Int32} {u_refused : Nat → Int32} {u_owned : Nat → Int64} {u_litIn : Nat → Int64} {u_shapes : Nat → Int32} {u_readAt : Nat → Int32} {u_meant : Nat → Int32} {u_readSo : Nat → Int32} {w_length : Int32} {w_bits : Int32} {w_letters : Nat → Int32} {r : (Nat → Int32) × (Nat → Int32)} {v1 : Int32} : ∀ (n : Nat) (q_windows : Nat → Int32) (q_shapes : Nat → Int32) (v2 : Int32), X1_keepPlace_L2 fu q_places_y q_places_columns q_shapeAt_0 q_shapeAt_1 q_shapeAt_2 v1 n q_windows q_shapes v2 = some r → mm_Wp mX1_keepPlace (mm_R (P_X1_keepPlace q_pains q_places_y q_places_boxes q_places_lastColumn q_places_lastTop q_places_columns q_deviations q_painsOfCell q_painsAt_0 q_painsAt_1 q_painsAt_2 q_shapeAt_0 q_shapeAt_1 q_shapeAt_2 u_wide u_high u_slackNow u_tenants u_letters u_readings u_kinds u_painOf u_payFor u_refused u_owned u_litIn u_shapes u_readAt u_meant u_readSo w_length w_bits w_letters r)) 0 0 2 [(0, .ref 0), (1, .int v1), (2, .int v2)] [] (W_X1_X5_X6 q_pains q_windows q_shapes q_places_y q_places_boxes q_places_lastColumn q_places_lastTop q_places_columns q_deviations q_painsOfCell q_painsAt_0 q_painsAt_1 q_painsAt_2 q_shapeAt_0 q_shapeAt_1 q_shapeAt_2 u_wide u_high u_slackNow u_tenants u_letters u_readings u_kinds u_painOf u_payFor u_refused u_owned u_litIn u_shapes u_readAt u_meant u_readSo w_length w_bits w_letters) := by
  intro n
  induction n with
  | zero =>
    intro q_windows q_shapes v2 h
    rw [X1_keepPlace_L2] at h
    cases h
  | succ n hr2 =>
    intro q_windows q_shapes v2 h
    rw [X1_keepPlace_L2] at h
    refine mm_iload_n 2 dX1_keepPlace_2 rfl rfl (pc' := 3) rfl ?_
    refine mm_iload_n 1 dX1_keepPlace_3 rfl rfl (pc' := 4) rfl ?_
    refine mm_icmp_ge (tgt := 46) dX1_keepPlace_4 (by decide) (pc' := 7) rfl (fun c => ?_) (fun c => ?_)
    · replace h := mm_it h c
      clear c
      have h9 := Option.some.inj h
      subst h9
      exact mm_vret rfl dX1_keepPlace_46 ⟨rfl, rfl⟩
    · replace h := mm_if h c
      clear c
      refine mm_aload_n 0 dX1_keepPlace_7 rfl rfl (pc' := 8) rfl ?_
      refine mm_getf fG_X1_15 dX1_keepPlace_8 rfl rfl (pc' := 11) rfl ?_
      refine mm_iload_n 2 dX1_keepPlace_11 rfl rfl (pc' := 12) rfl ?_
      refine mm_aload_n 0 dX1_keepPlace_12 rfl rfl (pc' := 13) rfl ?_
      refine mm_getf fG_X1_25 dX1_keepPlace_13 rfl rfl (pc' := 16) rfl ?_
      refine mm_iload_n 2 dX1_keepPlace_16 rfl rfl (pc' := 17) rfl ?_
      obtain ⟨t17, h17, h⟩ := mm_bd h
      refine mm_callV (As := [.int v2]) (rest := [.int v2, .ref 1]) (av := [.ref 0, .int v2]) (wc := (W_X3 q_places_y q_places_boxes q_places_lastColumn q_places_lastTop q_places_columns)) (is := [3, 4]) cV_X1_61 (ok_X3_window h17) ⟨rfl, rfl, Nat.le_of_ble_eq_true rfl, Nat.le_of_ble_eq_true rfl⟩ dX1_keepPlace_17 rfl rfl rfl rfl rfl ⟨rfl, by decide, by decide⟩ (by rintro _ _ ⟨-, rfl⟩; rfl) (Nat.le_of_ble_eq_true rfl) ⟨Nat.le_of_ble_eq_true rfl, Nat.le_of_ble_eq_true rfl⟩ (pc' := 20) rfl ?_
      rintro rv w ⟨rfl, rfl⟩
      show mm_Wp _ _ _ _ 20 [(0, .ref 0), (1, .int v1), (2, .int v2)] [.int t17, .int v2, .ref 1] (W_X1_X5_X6 q_pains q_windows q_shapes q_places_y q_places_boxes q_places_lastColumn q_places_lastTop q_places_columns q_deviations q_painsOfCell q_painsAt_0 q_painsAt_1 q_painsAt_2 q_shapeAt_0 q_shapeAt_1 q_shapeAt_2 u_wide u_high u_slackNow u_tenants u_letters u_readings u_kinds u_painOf u_payFor u_refused u_owned u_litIn u_shapes u_readAt u_meant u_readSo w_length w_bits w_letters)
      clear h17
      obtain ⟨c20, h⟩ := mm_ck_of h
      refine mm_iast dX1_keepPlace_20 rfl c20 rfl (ws' := (W_X1_X5_X6 q_pains (upd q_windows v2.toNatClampNeg t17) q_shapes q_places_y q_places_boxes q_places_lastColumn q_places_lastTop q_places_columns q_deviations q_painsOfCell q_painsAt_0 q_painsAt_1 q_painsAt_2 q_shapeAt_0 q_shapeAt_1 q_shapeAt_2 u_wide u_high u_slackNow u_tenants u_letters u_readings u_kinds u_painOf u_payFor u_refused u_owned u_litIn u_shapes u_readAt u_meant u_readSo w_length w_bits w_letters)) rfl (pc' := 21) rfl ?_
      clear c20
      refine mm_aload_n 0 dX1_keepPlace_21 rfl rfl (pc' := 22) rfl ?_
      refine mm_getf fG_X1_19 dX1_keepPlace_22 rfl rfl (pc' := 25) rfl ?_
      refine mm_iload_n 2 dX1_keepPlace_25 rfl rfl (pc' := 26) rfl ?_
      refine mm_aload_n 0 dX1_keepPlace_26 rfl rfl (pc' := 27) rfl ?_
      refine mm_getf fG_X1_40 dX1_keepPlace_27 rfl rfl (pc' := 30) rfl ?_
      refine mm_iload_n 2 dX1_keepPlace_30 rfl rfl (pc' := 31) rfl ?_
      by_cases c0 : v2 = (0 : Int32)
      · replace h := mm_it h c0
        refine mm_aaldK (b := 12) (0 : Int32) c0 dX1_keepPlace_31 rfl ki_0_3 (congrArg (fun j => some (12 + j)) kt_0) (pc' := 32) rfl ?_
        clear c0
        refine mm_aload_n 0 dX1_keepPlace_32 rfl rfl (pc' := 33) rfl ?_
        refine mm_getf fG_X1_15 dX1_keepPlace_33 rfl rfl (pc' := 36) rfl ?_
        refine mm_iload_n 2 dX1_keepPlace_36 rfl rfl (pc' := 37) rfl ?_
        obtain ⟨x37, c37, e37, h⟩ := mm_rd_of h
        refine mm_iald dX1_keepPlace_37 rfl c37 e37 (pc' := 38) rfl ?_
        clear c37 e37
        obtain ⟨x38, c38, e38, h⟩ := mm_rd_of h
        refine mm_iald dX1_keepPlace_38 rfl c38 e38 (pc' := 39) rfl ?_
        clear c38 e38
        obtain ⟨c39, h⟩ := mm_ck_of h
        refine mm_iast dX1_keepPlace_39 rfl c39 rfl (ws' := (W_X1_X5_X6 q_pains (upd q_windows v2.toNatClampNeg t17) (upd q_shapes v2.toNatClampNeg x38) q_places_y q_places_boxes q_places_lastColumn q_places_lastTop q_places_columns q_deviations q_painsOfCell q_painsAt_0 q_painsAt_1 q_painsAt_2 q_shapeAt_0 q_shapeAt_1 q_shapeAt_2 u_wide u_high u_slackNow u_tenants u_letters u_readings u_kinds u_painOf u_payFor u_refused u_owned u_litIn u_shapes u_readAt u_meant u_readSo w_length w_bits w_letters)) rfl (pc' := 40) rfl ?_
        clear c39
        refine mm_iinc 2 dX1_keepPlace_40 rfl ki_1 (by decide) (l' := [(2, .int (v2 + (1 : Int32))), (0, .ref 0), (1, .int v1)]) rfl (pc' := 43) rfl ?_
        refine mm_goto (tgt := 2) dX1_keepPlace_43 (by decide) ?_
        exact mm_sub [1, 2, 0] rfl (hr2 _ _ _ h)
      replace h := mm_if h c0
      by_cases c1 : v2 = (1 : Int32)
      · replace h := mm_it h c1
        refine mm_aaldK (b := 13) (1 : Int32) c1 dX1_keepPlace_31 rfl ki_1_3 (congrArg (fun j => some (12 + j)) kt_1) (pc' := 32) rfl ?_
        clear c0 c1
        refine mm_aload_n 0 dX1_keepPlace_32 rfl rfl (pc' := 33) rfl ?_
        refine mm_getf fG_X1_15 dX1_keepPlace_33 rfl rfl (pc' := 36) rfl ?_
        refine mm_iload_n 2 dX1_keepPlace_36 rfl rfl (pc' := 37) rfl ?_
        obtain ⟨x37, c37, e37, h⟩ := mm_rd_of h
        refine mm_iald dX1_keepPlace_37 rfl c37 e37 (pc' := 38) rfl ?_
        clear c37 e37
        obtain ⟨x38, c38, e38, h⟩ := mm_rd_of h
        refine mm_iald dX1_keepPlace_38 rfl c38 e38 (pc' := 39) rfl ?_
        clear c38 e38
        obtain ⟨c39, h⟩ := mm_ck_of h
        refine mm_iast dX1_keepPlace_39 rfl c39 rfl (ws' := (W_X1_X5_X6 q_pains (upd q_windows v2.toNatClampNeg t17) (upd q_shapes v2.toNatClampNeg x38) q_places_y q_places_boxes q_places_lastColumn q_places_lastTop q_places_columns q_deviations q_painsOfCell q_painsAt_0 q_painsAt_1 q_painsAt_2 q_shapeAt_0 q_shapeAt_1 q_shapeAt_2 u_wide u_high u_slackNow u_tenants u_letters u_readings u_kinds u_painOf u_payFor u_refused u_owned u_litIn u_shapes u_readAt u_meant u_readSo w_length w_bits w_letters)) rfl (pc' := 40) rfl ?_
        clear c39
        refine mm_iinc 2 dX1_keepPlace_40 rfl ki_1 (by decide) (l' := [(2, .int (v2 + (1 : Int32))), (0, .ref 0), (1, .int v1)]) rfl (pc' := 43) rfl ?_
        refine mm_goto (tgt := 2) dX1_keepPlace_43 (by decide) ?_
        exact mm_sub [1, 2, 0] rfl (hr2 _ _ _ h)
      replace h := mm_if h c1
      by_cases c2 : v2 = (2 : Int32)
      · replace h := mm_it h c2
        refine mm_aaldK (b := 14) (2 : Int32) c2 dX1_keepPlace_31 rfl ki_2_3 (congrArg (fun j => some (12 + j)) kt_2) (pc' := 32) rfl ?_
        clear c0 c1 c2
        refine mm_aload_n 0 dX1_keepPlace_32 rfl rfl (pc' := 33) rfl ?_
        refine mm_getf fG_X1_15 dX1_keepPlace_33 rfl rfl (pc' := 36) rfl ?_
        refine mm_iload_n 2 dX1_keepPlace_36 rfl rfl (pc' := 37) rfl ?_
        obtain ⟨x37, c37, e37, h⟩ := mm_rd_of h
        refine mm_iald dX1_keepPlace_37 rfl c37 e37 (pc' := 38) rfl ?_
        clear c37 e37
        obtain ⟨x38, c38, e38, h⟩ := mm_rd_of h
        refine mm_iald dX1_keepPlace_38 rfl c38 e38 (pc' := 39) rfl ?_
        clear c38 e38
        obtain ⟨c39, h⟩ := mm_ck_of h
        refine mm_iast dX1_keepPlace_39 rfl c39 rfl (ws' := (W_X1_X5_X6 q_pains (upd q_windows v2.toNatClampNeg t17) (upd q_shapes v2.toNatClampNeg x38) q_places_y q_places_boxes q_places_lastColumn q_places_lastTop q_places_columns q_deviations q_painsOfCell q_painsAt_0 q_painsAt_1 q_painsAt_2 q_shapeAt_0 q_shapeAt_1 q_shapeAt_2 u_wide u_high u_slackNow u_tenants u_letters u_readings u_kinds u_painOf u_payFor u_refused u_owned u_litIn u_shapes u_readAt u_meant u_readSo w_length w_bits w_letters)) rfl (pc' := 40) rfl ?_
        clear c39
        refine mm_iinc 2 dX1_keepPlace_40 rfl ki_1 (by decide) (l' := [(2, .int (v2 + (1 : Int32))), (0, .ref 0), (1, .int v1)]) rfl (pc' := 43) rfl ?_
        refine mm_goto (tgt := 2) dX1_keepPlace_43 (by decide) ?_
        exact mm_sub [1, 2, 0] rfl (hr2 _ _ _ h)
      replace h := mm_if h c2
      cases h
def f_X1_keepPlace (fu : Nat) (q_windows : Nat → Int32) (q_shapes : Nat → Int32) (q_places_y : Int32) (q_places_columns : Nat → Int32) (q_shapeAt_0 : Nat → Int32) (q_shapeAt_1 : Nat → Int32) (q_shapeAt_2 : Nat → Int32) (v1 : Int32) : Option ((Nat → Int32) × (Nat → Int32)) := X1_keepPlace_L2 fu q_places_y q_places_columns q_shapeAt_0 q_shapeAt_1 q_shapeAt_2 v1 fu q_windows q_shapes (0 : Int32)
set_option maxHeartbeats 4000000 in
set_option maxRecDepth 100000 in
theorem ok_X1_keepPlace {fu : Nat} {q_pains : Int32} {q_windows : Nat → Int32} {q_shapes : Nat → Int32} {q_places_y : Int32} {q_places_boxes : Int32} {q_places_lastColumn : Int32} {q_places_lastTop : Int32} {q_places_columns : Nat → Int32} {q_deviations : Nat → Int32} {q_painsOfCell : Nat → Int32} {q_painsAt_0 : Nat → Int32} {q_painsAt_1 : Nat → Int32} {q_painsAt_2 : Nat → Int32} {q_shapeAt_0 : Nat → Int32} {q_shapeAt_1 : Nat → Int32} {q_shapeAt_2 : Nat → Int32} {u_wide : Int32} {u_high : Int32} {u_slackNow : Int32} {u_tenants : Int32} {u_letters : Int32} {u_readings : Int32} {u_kinds : Nat → Int32} {u_painOf : Nat → Int32} {u_payFor : Nat → Int32} {u_refused : Nat → Int32} {u_owned : Nat → Int64} {u_litIn : Nat → Int64} {u_shapes : Nat → Int32} {u_readAt : Nat → Int32} {u_meant : Nat → Int32} {u_readSo : Nat → Int32} {w_length : Int32} {w_bits : Int32} {w_letters : Nat → Int32} {r : (Nat → Int32) × (Nat → Int32)} {v1 : Int32} (h : f_X1_keepPlace fu q_windows q_shapes q_places_y q_places_columns q_shapeAt_0 q_shapeAt_1 q_shapeAt_2 v1 = some r) : mm_Ok mX1_keepPlace [.ref 0, .int v1] (W_X1_X5_X6 q_pains q_windows q_shapes q_places_y q_places_boxes q_places_lastColumn q_places_lastTop q_places_columns q_deviations q_painsOfCell q_painsAt_0 q_painsAt_1 q_painsAt_2 q_shapeAt_0 q_shapeAt_1 q_shapeAt_2 u_wide u_high u_slackNow u_tenants u_letters u_readings u_kinds u_painOf u_payFor u_refused u_owned u_litIn u_shapes u_readAt u_meant u_readSo w_length w_bits w_letters) (P_X1_keepPlace q_pains q_places_y q_places_boxes q_places_lastColumn q_places_lastTop q_places_columns q_deviations q_painsOfCell q_painsAt_0 q_painsAt_1 q_painsAt_2 q_shapeAt_0 q_shapeAt_1 q_shapeAt_2 u_wide u_high u_slackNow u_tenants u_letters u_readings u_kinds u_painOf u_payFor u_refused u_owned u_litIn u_shapes u_readAt u_meant u_readSo w_length w_bits w_letters r) := by
  rw [f_X1_keepPlace] at h
  refine mm_Ok.of pn_X1 (l := [(0, .ref 0), (1, .int v1)]) rfl (Nat.le_of_ble_eq_true rfl) ?_
  refine mm_iconst dX1_keepPlace_0 ki_0 (pc' := 1) rfl ?_
  refine mm_istore_n dX1_keepPlace_1 rfl (by decide) (l' := [(2, .int (0 : Int32)), (0, .ref 0), (1, .int v1)]) rfl (pc' := 2) rfl ?_
  exact mm_sub [1, 2, 0] rfl (s_X1_keepPlace_L2  _ _ _ _ h)

def P_X1_find (q_deviations : Nat → Int32) (u_wide : Int32) (u_high : Int32) (u_slackNow : Int32) (u_tenants : Int32) (u_letters : Int32) (u_readings : Int32) (u_kinds : Nat → Int32) (u_painOf : Nat → Int32) (u_payFor : Nat → Int32) (u_refused : Nat → Int32) (u_owned : Nat → Int64) (u_litIn : Nat → Int64) (u_shapes : Nat → Int32) (u_readAt : Nat → Int32) (u_meant : Nat → Int32) (u_readSo : Nat → Int32) (w_length : Int32) (w_bits : Int32) (w_letters : Nat → Int32) (r : Int32 × (Nat → Int32) × (Nat → Int32) × Int32 × Int32 × Int32 × Int32 × (Nat → Int32) × (Nat → Int32) × (Nat → Int32) × (Nat → Int32) × (Nat → Int32) × (Nat → Int32) × (Nat → Int32) × (Nat → Int32)) : Option Value → mm_W → Prop := fun rv w => rv = none ∧ w = (W_X1_X5_X6 r.1 r.2.1 r.2.2.1 r.2.2.2.1 r.2.2.2.2.1 r.2.2.2.2.2.1 r.2.2.2.2.2.2.1 r.2.2.2.2.2.2.2.1 q_deviations r.2.2.2.2.2.2.2.2.1 r.2.2.2.2.2.2.2.2.2.1 r.2.2.2.2.2.2.2.2.2.2.1 r.2.2.2.2.2.2.2.2.2.2.2.1 r.2.2.2.2.2.2.2.2.2.2.2.2.1 r.2.2.2.2.2.2.2.2.2.2.2.2.2.1 r.2.2.2.2.2.2.2.2.2.2.2.2.2.2 u_wide u_high u_slackNow u_tenants u_letters u_readings u_kinds u_painOf u_payFor u_refused u_owned u_litIn u_shapes u_readAt u_meant u_readSo w_length w_bits w_letters)
def X1_find_J123 (fu : Nat)  (q_pains : Int32) (q_windows : Nat → Int32) (q_shapes : Nat → Int32) (q_places_y : Int32) (q_places_boxes : Int32) (q_places_lastColumn : Int32) (q_places_lastTop : Int32) (q_places_columns : Nat → Int32) (q_deviations : Nat → Int32) (q_painsOfCell : Nat → Int32) (q_painsAt_0 : Nat → Int32) (q_painsAt_1 : Nat → Int32) (q_painsAt_2 : Nat → Int32) (q_shapeAt_0 : Nat → Int32) (q_shapeAt_1 : Nat → Int32) (q_shapeAt_2 : Nat → Int32) (u_wide : Int32) (u_high : Int32) (u_slackNow : Int32) (u_tenants : Int32) (u_letters : Int32) (u_kinds : Nat → Int32) (u_painOf : Nat → Int32) (u_refused : Nat → Int32) (u_owned : Nat → Int64) (u_litIn : Nat → Int64) (u_shapes : Nat → Int32) (w_length : Int32) (w_bits : Int32) (w_letters : Nat → Int32) (v4 : Int32)  : Option (Int32 × (Nat → Int32) × (Nat → Int32) × Int32 × Int32 × Int32 × Int32 × (Nat → Int32) × (Nat → Int32) × (Nat → Int32) × (Nat → Int32) × (Nat → Int32) × (Nat → Int32) × (Nat → Int32) × (Nat → Int32)) := if (1000000 : Int32) ≤ v4 then (some (q_pains, q_windows, q_shapes, q_places_y, q_places_boxes, q_places_lastColumn, q_places_lastTop, q_places_columns, q_painsOfCell, q_painsAt_0, q_painsAt_1, q_painsAt_2, q_shapeAt_0, q_shapeAt_1, q_shapeAt_2)) else (some (v4, q_windows, q_shapes, q_places_y, q_places_boxes, q_places_lastColumn, q_places_lastTop, q_places_columns, q_painsOfCell, q_painsAt_0, q_painsAt_1, q_painsAt_2, q_shapeAt_0, q_shapeAt_1, q_shapeAt_2))
set_option maxHeartbeats 4000000 in
set_option maxRecDepth 100000 in
theorem s_X1_find_J123 {fu : Nat} {q_pains : Int32} {q_windows : Nat → Int32} {q_shapes : Nat → Int32} {q_places_y : Int32} {q_places_boxes : Int32} {q_places_lastColumn : Int32} {q_places_lastTop : Int32} {q_places_columns : Nat → Int32} {q_deviations : Nat → Int32} {q_painsOfCell : Nat → Int32} {q_painsAt_0 : Nat → Int32} {q_painsAt_1 : Nat → Int32} {q_painsAt_2 : Nat → Int32} {q_shapeAt_0 : Nat → Int32} {q_shapeAt_1 : Nat → Int32} {q_shapeAt_2 : Nat → Int32} {u_wide : Int32} {u_high : Int32} {u_slackNow : Int32} {u_tenants : Int32} {u_letters : Int32} {u_readings : Int32} {u_kinds : Nat → Int32} {u_painOf : Nat → Int32} {u_payFor : Nat → Int32} {u_refused : Nat → Int32} {u_owned : Nat → Int64} {u_litIn : Nat → Int64} {u_shapes : Nat → Int32} {u_readAt : Nat → Int32} {u_meant : Nat → Int32} {u_readSo : Nat → Int32} {w_length : Int32} {w_bits : Int32} {w_letters : Nat → Int32} {r : Int32 × (Nat → Int32) × (Nat → Int32) × Int32 × Int32 × Int32 × Int32 × (Nat → Int32) × (Nat → Int32) × (Nat → Int32) × (Nat → Int32) × (Nat → Int32) × (Nat → Int32) × (Nat → Int32) × (Nat → Int32)} {v4 : Int32} (h : X1_find_J123 fu q_pains q_windows q_shapes q_places_y q_places_boxes q_places_lastColumn q_places_lastTop q_places_columns q_deviations q_painsOfCell q_painsAt_0 q_painsAt_1 q_painsAt_2 q_shapeAt_0 q_shapeAt_1 q_shapeAt_2 u_wide u_high u_slackNow u_tenants u_letters u_kinds u_painOf u_refused u_owned u_litIn u_shapes w_length w_bits w_letters v4 = some r) : mm_Wp mX1_find (mm_R (P_X1_find q_deviations u_wide u_high u_slackNow u_tenants u_letters u_readings u_kinds u_painOf u_payFor u_refused u_owned u_litIn u_shapes u_readAt u_meant u_readSo w_length w_bits w_letters r)) 0 0 123 [(0, .ref 0), (4, .int v4)] [] (W_X1_X5_X6 q_pains q_windows q_shapes q_places_y q_places_boxes q_places_lastColumn q_places_lastTop q_places_columns q_deviations q_painsOfCell q_painsAt_0 q_painsAt_1 q_painsAt_2 q_shapeAt_0 q_shapeAt_1 q_shapeAt_2 u_wide u_high u_slackNow u_tenants u_letters u_readings u_kinds u_painOf u_payFor u_refused u_owned u_litIn u_shapes u_readAt u_meant u_readSo w_length w_bits w_letters) := by
  rw [X1_find_J123] at h
  refine mm_iload 1 dX1_find_123 rfl (pc' := 125) rfl ?_
  refine mm_ldc kC_X1_60 dX1_find_125 (pc' := 127) rfl ?_
  refine mm_icmp_ge (tgt := 136) dX1_find_127 (by decide) (pc' := 130) rfl (fun c => ?_) (fun c => ?_)
  · replace h := mm_it h c
    clear c
    have h9 := Option.some.inj h
    subst h9
    exact mm_vret rfl dX1_find_136 ⟨rfl, rfl⟩
  · replace h := mm_if h c
    clear c
    refine mm_aload_n 0 dX1_find_130 rfl rfl (pc' := 131) rfl ?_
    refine mm_iload 1 dX1_find_131 rfl (pc' := 133) rfl ?_
    refine mm_putf fP_X1_9 dX1_find_133 rfl (Nat.le_of_ble_eq_true rfl) (fun _ => rfl) (fun _ => rfl) (ws' := (W_X1_X5_X6 v4 q_windows q_shapes q_places_y q_places_boxes q_places_lastColumn q_places_lastTop q_places_columns q_deviations q_painsOfCell q_painsAt_0 q_painsAt_1 q_painsAt_2 q_shapeAt_0 q_shapeAt_1 q_shapeAt_2 u_wide u_high u_slackNow u_tenants u_letters u_readings u_kinds u_painOf u_payFor u_refused u_owned u_litIn u_shapes u_readAt u_meant u_readSo w_length w_bits w_letters)) rfl (pc' := 136) rfl ?_
    have h9 := Option.some.inj h
    subst h9
    exact mm_vret rfl dX1_find_136 ⟨rfl, rfl⟩
def X1_find_J104 (fu : Nat) (rec35 : (Nat → Int32) → (Nat → Int32) → Int32 → (Nat → Int32) → Int32 → Int32 → Option (Int32 × (Nat → Int32) × (Nat → Int32) × Int32 × Int32 × Int32 × Int32 × (Nat → Int32) × (Nat → Int32) × (Nat → Int32) × (Nat → Int32) × (Nat → Int32) × (Nat → Int32) × (Nat → Int32) × (Nat → Int32))) (q_pains : Int32) (q_windows : Nat → Int32) (q_shapes : Nat → Int32) (q_places_y : Int32) (q_places_boxes : Int32) (q_places_lastColumn : Int32) (q_places_lastTop : Int32) (q_places_columns : Nat → Int32) (q_deviations : Nat → Int32) (q_painsOfCell : Nat → Int32) (q_painsAt_0 : Nat → Int32) (q_painsAt_1 : Nat → Int32) (q_painsAt_2 : Nat → Int32) (q_shapeAt_0 : Nat → Int32) (q_shapeAt_1 : Nat → Int32) (q_shapeAt_2 : Nat → Int32) (u_wide : Int32) (u_high : Int32) (u_slackNow : Int32) (u_tenants : Int32) (u_letters : Int32) (u_kinds : Nat → Int32) (u_painOf : Nat → Int32) (u_refused : Nat → Int32) (u_owned : Nat → Int64) (u_litIn : Nat → Int64) (u_shapes : Nat → Int32) (w_length : Int32) (w_bits : Int32) (w_letters : Nat → Int32) (v4 : Int32) (v5 : Int32)  : Option (Int32 × (Nat → Int32) × (Nat → Int32) × Int32 × Int32 × Int32 × Int32 × (Nat → Int32) × (Nat → Int32) × (Nat → Int32) × (Nat → Int32) × (Nat → Int32) × (Nat → Int32) × (Nat → Int32) × (Nat → Int32)) := (f_X3_goOn fu q_places_y q_places_boxes q_places_lastColumn q_places_lastTop q_places_columns).bind fun t108 => if t108.1 = 0 then (X1_find_J123 fu q_pains q_windows q_shapes t108.2.1 q_places_boxes q_places_lastColumn q_places_lastTop t108.2.2 q_deviations q_painsOfCell q_painsAt_0 q_painsAt_1 q_painsAt_2 q_shapeAt_0 q_shapeAt_1 q_shapeAt_2 u_wide u_high u_slackNow u_tenants u_letters u_kinds u_painOf u_refused u_owned u_litIn u_shapes w_length w_bits w_letters v4) else (rec35 q_windows q_shapes t108.2.1 t108.2.2 v4 (v5 + (1 : Int32)))
set_option maxHeartbeats 4000000 in
set_option maxRecDepth 100000 in
theorem s_X1_find_J104 {fu : Nat} {q_pains : Int32} {q_windows : Nat → Int32} {q_shapes : Nat → Int32} {q_places_y : Int32} {q_places_boxes : Int32} {q_places_lastColumn : Int32} {q_places_lastTop : Int32} {q_places_columns : Nat → Int32} {q_deviations : Nat → Int32} {q_painsOfCell : Nat → Int32} {q_painsAt_0 : Nat → Int32} {q_painsAt_1 : Nat → Int32} {q_painsAt_2 : Nat → Int32} {q_shapeAt_0 : Nat → Int32} {q_shapeAt_1 : Nat → Int32} {q_shapeAt_2 : Nat → Int32} {u_wide : Int32} {u_high : Int32} {u_slackNow : Int32} {u_tenants : Int32} {u_letters : Int32} {u_readings : Int32} {u_kinds : Nat → Int32} {u_painOf : Nat → Int32} {u_payFor : Nat → Int32} {u_refused : Nat → Int32} {u_owned : Nat → Int64} {u_litIn : Nat → Int64} {u_shapes : Nat → Int32} {u_readAt : Nat → Int32} {u_meant : Nat → Int32} {u_readSo : Nat → Int32} {w_length : Int32} {w_bits : Int32} {w_letters : Nat → Int32} {r : Int32 × (Nat → Int32) × (Nat → Int32) × Int32 × Int32 × Int32 × Int32 × (Nat → Int32) × (Nat → Int32) × (Nat → Int32) × (Nat → Int32) × (Nat → Int32) × (Nat → Int32) × (Nat → Int32) × (Nat → Int32)} {rec35 : (Nat → Int32) → (Nat → Int32) → Int32 → (Nat → Int32) → Int32 → Int32 → Option (Int32 × (Nat → Int32) × (Nat → Int32) × Int32 × Int32 × Int32 × Int32 × (Nat → Int32) × (Nat → Int32) × (Nat → Int32) × (Nat → Int32) × (Nat → Int32) × (Nat → Int32) × (Nat → Int32) × (Nat → Int32))} {v4 : Int32} {v5 : Int32} (hr35 : ∀ (z_q_windows : Nat → Int32) (z_q_shapes : Nat → Int32) (z_q_places_y : Int32) (z_q_places_columns : Nat → Int32) (y4 : Int32) (y5 : Int32), rec35 z_q_windows z_q_shapes z_q_places_y z_q_places_columns y4 y5 = some r → mm_Wp mX1_find (mm_R (P_X1_find q_deviations u_wide u_high u_slackNow u_tenants u_letters u_readings u_kinds u_painOf u_payFor u_refused u_owned u_litIn u_shapes u_readAt u_meant u_readSo w_length w_bits w_letters r)) 0 0 35 [(0, .ref 0), (2, .ref 26), (4, .int y4), (5, .int y5)] [] (W_X1_X5_X6 q_pains z_q_windows z_q_shapes z_q_places_y q_places_boxes q_places_lastColumn q_places_lastTop z_q_places_columns q_deviations q_painsOfCell q_painsAt_0 q_painsAt_1 q_painsAt_2 q_shapeAt_0 q_shapeAt_1 q_shapeAt_2 u_wide u_high u_slackNow u_tenants u_letters u_readings u_kinds u_painOf u_payFor u_refused u_owned u_litIn u_shapes u_readAt u_meant u_readSo w_length w_bits w_letters)) (h : X1_find_J104 fu rec35 q_pains q_windows q_shapes q_places_y q_places_boxes q_places_lastColumn q_places_lastTop q_places_columns q_deviations q_painsOfCell q_painsAt_0 q_painsAt_1 q_painsAt_2 q_shapeAt_0 q_shapeAt_1 q_shapeAt_2 u_wide u_high u_slackNow u_tenants u_letters u_kinds u_painOf u_refused u_owned u_litIn u_shapes w_length w_bits w_letters v4 v5 = some r) : mm_Wp mX1_find (mm_R (P_X1_find q_deviations u_wide u_high u_slackNow u_tenants u_letters u_readings u_kinds u_painOf u_payFor u_refused u_owned u_litIn u_shapes u_readAt u_meant u_readSo w_length w_bits w_letters r)) 0 0 104 [(0, .ref 0), (2, .ref 26), (4, .int v4), (5, .int v5)] [] (W_X1_X5_X6 q_pains q_windows q_shapes q_places_y q_places_boxes q_places_lastColumn q_places_lastTop q_places_columns q_deviations q_painsOfCell q_painsAt_0 q_painsAt_1 q_painsAt_2 q_shapeAt_0 q_shapeAt_1 q_shapeAt_2 u_wide u_high u_slackNow u_tenants u_letters u_readings u_kinds u_painOf u_payFor u_refused u_owned u_litIn u_shapes u_readAt u_meant u_readSo w_length w_bits w_letters) := by
  rw [X1_find_J104] at h
  refine mm_aload_n 0 dX1_find_104 rfl rfl (pc' := 105) rfl ?_
  refine mm_getf fG_X1_25 dX1_find_105 rfl rfl (pc' := 108) rfl ?_
  obtain ⟨t108, h108, h⟩ := mm_bd h
  refine mm_callV (As := []) (rest := []) (av := [.ref 0]) (wc := (W_X3 q_places_y q_places_boxes q_places_lastColumn q_places_lastTop q_places_columns)) (is := [3, 4]) cV_X1_69 (ok_X3_goOn h108) ⟨rfl, rfl, Nat.le_of_ble_eq_true rfl, Nat.le_of_ble_eq_true rfl⟩ dX1_find_108 rfl rfl rfl rfl rfl ⟨rfl, by decide, by decide⟩ (by rintro _ _ ⟨-, rfl⟩; rfl) (Nat.le_of_ble_eq_true rfl) ⟨Nat.le_of_ble_eq_true rfl, Nat.le_of_ble_eq_true rfl⟩ (pc' := 111) rfl ?_
  rintro rv w ⟨rfl, rfl⟩
  show mm_Wp _ _ _ _ 111 [(0, .ref 0), (2, .ref 26), (4, .int v4), (5, .int v5)] [.int t108.1] (W_X1_X5_X6 q_pains q_windows q_shapes t108.2.1 q_places_boxes q_places_lastColumn q_places_lastTop t108.2.2 q_deviations q_painsOfCell q_painsAt_0 q_painsAt_1 q_painsAt_2 q_shapeAt_0 q_shapeAt_1 q_shapeAt_2 u_wide u_high u_slackNow u_tenants u_letters u_readings u_kinds u_painOf u_payFor u_refused u_owned u_litIn u_shapes u_readAt u_meant u_readSo w_length w_bits w_letters)
  clear h108
  refine mm_if_ne (tgt := 117) dX1_find_111 (by decide) (pc' := 114) rfl (fun c => ?_) (fun c => ?_)
  · replace h := mm_if h c
    clear c
    refine mm_iinc 3 dX1_find_117 rfl ki_1 (by decide) (l' := [(5, .int (v5 + (1 : Int32))), (0, .ref 0), (2, .ref 26), (4, .int v4)]) rfl (pc' := 120) rfl ?_
    refine mm_goto (tgt := 35) dX1_find_120 (by decide) ?_
    exact mm_sub [1, 2, 3, 0] rfl (hr35 _ _ _ _ _ _ h)
  · replace h := mm_it h c
    clear c
    refine mm_goto (tgt := 123) dX1_find_114 (by decide) ?_
    exact mm_sub [0, 2] rfl (s_X1_find_J123  h)
def X1_find_L48 (fu : Nat) (rec35 : (Nat → Int32) → (Nat → Int32) → Int32 → (Nat → Int32) → Int32 → Int32 → Option (Int32 × (Nat → Int32) × (Nat → Int32) × Int32 × Int32 × Int32 × Int32 × (Nat → Int32) × (Nat → Int32) × (Nat → Int32) × (Nat → Int32) × (Nat → Int32) × (Nat → Int32) × (Nat → Int32) × (Nat → Int32))) (q_pains : Int32) (q_windows : Nat → Int32) (q_shapes : Nat → Int32) (q_places_y : Int32) (q_places_boxes : Int32) (q_places_lastColumn : Int32) (q_places_lastTop : Int32) (q_places_columns : Nat → Int32) (q_deviations : Nat → Int32) (q_painsOfCell : Nat → Int32) (q_painsAt_0 : Nat → Int32) (q_painsAt_1 : Nat → Int32) (q_painsAt_2 : Nat → Int32) (q_shapeAt_0 : Nat → Int32) (q_shapeAt_1 : Nat → Int32) (q_shapeAt_2 : Nat → Int32) (u_wide : Int32) (u_high : Int32) (u_slackNow : Int32) (u_tenants : Int32) (u_letters : Int32) (u_kinds : Nat → Int32) (u_painOf : Nat → Int32) (u_refused : Nat → Int32) (u_owned : Nat → Int64) (u_litIn : Nat → Int64) (u_shapes : Nat → Int32) (w_length : Int32) (w_bits : Int32) (w_letters : Nat → Int32) (v4 : Int32) (v5 : Int32) : Nat → Int32 → Int32 → Option (Int32 × (Nat → Int32) × (Nat → Int32) × Int32 × Int32 × Int32 × Int32 × (Nat → Int32) × (Nat → Int32) × (Nat → Int32) × (Nat → Int32) × (Nat → Int32) × (Nat → Int32) × (Nat → Int32) × (Nat → Int32))
  | 0, _, _ => none
  | n + 1, v6, v7 => if w_length ≤ v7 then (if v4 ≤ v6 then (X1_find_J104 fu rec35 q_pains q_windows q_shapes q_places_y q_places_boxes q_places_lastColumn q_places_lastTop q_places_columns q_deviations q_painsOfCell q_painsAt_0 q_painsAt_1 q_painsAt_2 q_shapeAt_0 q_shapeAt_1 q_shapeAt_2 u_wide u_high u_slackNow u_tenants u_letters u_kinds u_painOf u_refused u_owned u_litIn u_shapes w_length w_bits w_letters v4 v5) else ((f_X1_keepPlace fu q_windows q_shapes q_places_y q_places_columns q_shapeAt_0 q_shapeAt_1 q_shapeAt_2 w_length).bind fun t101 => X1_find_J104 fu rec35 q_pains t101.1 t101.2 q_places_y q_places_boxes q_places_lastColumn q_places_lastTop q_places_columns q_deviations q_painsOfCell q_painsAt_0 q_painsAt_1 q_painsAt_2 q_shapeAt_0 q_shapeAt_1 q_shapeAt_2 u_wide u_high u_slackNow u_tenants u_letters u_kinds u_painOf u_refused u_owned u_litIn u_shapes w_length w_bits w_letters v6 v5)) else (if v7 = (0 : Int32) then ((f_X3_window fu q_places_y q_places_columns v7).bind fun t72 => mm_rd q_painsAt_0 60 t72 fun x75 => (X1_find_L48 fu rec35 q_pains q_windows q_shapes q_places_y q_places_boxes q_places_lastColumn q_places_lastTop q_places_columns q_deviations q_painsOfCell q_painsAt_0 q_painsAt_1 q_painsAt_2 q_shapeAt_0 q_shapeAt_1 q_shapeAt_2 u_wide u_high u_slackNow u_tenants u_letters u_kinds u_painOf u_refused u_owned u_litIn u_shapes w_length w_bits w_letters v4 v5 n) (v6 + x75) (v7 + (1 : Int32))) else (if v7 = (1 : Int32) then ((f_X3_window fu q_places_y q_places_columns v7).bind fun t72 => mm_rd q_painsAt_1 60 t72 fun x75 => (X1_find_L48 fu rec35 q_pains q_windows q_shapes q_places_y q_places_boxes q_places_lastColumn q_places_lastTop q_places_columns q_deviations q_painsOfCell q_painsAt_0 q_painsAt_1 q_painsAt_2 q_shapeAt_0 q_shapeAt_1 q_shapeAt_2 u_wide u_high u_slackNow u_tenants u_letters u_kinds u_painOf u_refused u_owned u_litIn u_shapes w_length w_bits w_letters v4 v5 n) (v6 + x75) (v7 + (1 : Int32))) else (if v7 = (2 : Int32) then ((f_X3_window fu q_places_y q_places_columns v7).bind fun t72 => mm_rd q_painsAt_2 60 t72 fun x75 => (X1_find_L48 fu rec35 q_pains q_windows q_shapes q_places_y q_places_boxes q_places_lastColumn q_places_lastTop q_places_columns q_deviations q_painsOfCell q_painsAt_0 q_painsAt_1 q_painsAt_2 q_shapeAt_0 q_shapeAt_1 q_shapeAt_2 u_wide u_high u_slackNow u_tenants u_letters u_kinds u_painOf u_refused u_owned u_litIn u_shapes w_length w_bits w_letters v4 v5 n) (v6 + x75) (v7 + (1 : Int32))) else (none))))
set_option maxHeartbeats 4000000 in
set_option maxRecDepth 100000 in
theorem s_X1_find_L48 {fu : Nat} {q_pains : Int32} {q_windows : Nat → Int32} {q_shapes : Nat → Int32} {q_places_y : Int32} {q_places_boxes : Int32} {q_places_lastColumn : Int32} {q_places_lastTop : Int32} {q_places_columns : Nat → Int32} {q_deviations : Nat → Int32} {q_painsOfCell : Nat → Int32} {q_painsAt_0 : Nat → Int32} {q_painsAt_1 : Nat → Int32} {q_painsAt_2 : Nat → Int32} {q_shapeAt_0 : Nat → Int32} {q_shapeAt_1 : Nat → Int32} {q_shapeAt_2 : Nat → Int32} {u_wide : Int32} {u_high : Int32} {u_slackNow : Int32} {u_tenants : Int32} {u_letters : Int32} {u_readings : Int32} {u_kinds : Nat → Int32} {u_painOf : Nat → Int32} {u_payFor : Nat → Int32} {u_refused : Nat → Int32} {u_owned : Nat → Int64} {u_litIn : Nat → Int64} {u_shapes : Nat → Int32} {u_readAt : Nat → Int32} {u_meant : Nat → Int32} {u_readSo : Nat → Int32} {w_length : Int32} {w_bits : Int32} {w_letters : Nat → Int32} {r : Int32 × (Nat → Int32) × (Nat → Int32) × Int32 × Int32 × Int32 × Int32 × (Nat → Int32) × (Nat → Int32) × (Nat → Int32) × (Nat → Int32) × (Nat → Int32) × (Nat → Int32) × (Nat → Int32) × (Nat → Int32)} {rec35 : (Nat → Int32) → (Nat → Int32) → Int32 → (Nat → Int32) → Int32 → Int32 → Option (Int32 × (Nat → Int32) × (Nat → Int32) × Int32 × Int32 × Int32 × Int32 × (Nat → Int32) × (Nat → Int32) × (Nat → Int32) × (Nat → Int32) × (Nat → Int32) × (Nat → Int32) × (Nat → Int32) × (Nat → Int32))} {v4 : Int32} {v5 : Int32} (hr35 : ∀ (z_q_windows : Nat → Int32) (z_q_shapes : Nat → Int32) (z_q_places_y : Int32) (z_q_places_columns : Nat → Int32) (y4 : Int32) (y5 : Int32), rec35 z_q_windows z_q_shapes z_q_places_y z_q_places_columns y4 y5 = some r → mm_Wp mX1_find (mm_R (P_X1_find q_deviations u_wide u_high u_slackNow u_tenants u_letters u_readings u_kinds u_painOf u_payFor u_refused u_owned u_litIn u_shapes u_readAt u_meant u_readSo w_length w_bits w_letters r)) 0 0 35 [(0, .ref 0), (2, .ref 26), (4, .int y4), (5, .int y5)] [] (W_X1_X5_X6 q_pains z_q_windows z_q_shapes z_q_places_y q_places_boxes q_places_lastColumn q_places_lastTop z_q_places_columns q_deviations q_painsOfCell q_painsAt_0 q_painsAt_1 q_painsAt_2 q_shapeAt_0 q_shapeAt_1 q_shapeAt_2 u_wide u_high u_slackNow u_tenants u_letters u_readings u_kinds u_painOf u_payFor u_refused u_owned u_litIn u_shapes u_readAt u_meant u_readSo w_length w_bits w_letters)) : ∀ (n : Nat) (v6 : Int32) (v7 : Int32), X1_find_L48 fu rec35 q_pains q_windows q_shapes q_places_y q_places_boxes q_places_lastColumn q_places_lastTop q_places_columns q_deviations q_painsOfCell q_painsAt_0 q_painsAt_1 q_painsAt_2 q_shapeAt_0 q_shapeAt_1 q_shapeAt_2 u_wide u_high u_slackNow u_tenants u_letters u_kinds u_painOf u_refused u_owned u_litIn u_shapes w_length w_bits w_letters v4 v5 n v6 v7 = some r → mm_Wp mX1_find (mm_R (P_X1_find q_deviations u_wide u_high u_slackNow u_tenants u_letters u_readings u_kinds u_painOf u_payFor u_refused u_owned u_litIn u_shapes u_readAt u_meant u_readSo w_length w_bits w_letters r)) 0 0 48 [(0, .ref 0), (2, .ref 26), (4, .int v4), (5, .int v5), (6, .int v6), (7, .int v7)] [] (W_X1_X5_X6 q_pains q_windows q_shapes q_places_y q_places_boxes q_places_lastColumn q_places_lastTop q_places_columns q_deviations q_painsOfCell q_painsAt_0 q_painsAt_1 q_painsAt_2 q_shapeAt_0 q_shapeAt_1 q_shapeAt_2 u_wide u_high u_slackNow u_tenants u_letters u_readings u_kinds u_painOf u_payFor u_refused u_owned u_litIn u_shapes u_readAt u_meant u_readSo w_length w_bits w_letters) := by
  intro n
  induction n with
  | zero =>
    intro v6 v7 h
    rw [X1_find_L48] at h
    cases h
  | succ n hr48 =>
    intro v6 v7 h
    rw [X1_find_L48] at h
    refine mm_iload 5 dX1_find_48 rfl (pc' := 50) rfl ?_
    refine mm_aload_n 1 dX1_find_50 rfl rfl (pc' := 51) rfl ?_
    refine mm_getf fG_X1_47 dX1_find_51 rfl rfl (pc' := 54) rfl ?_
    refine mm_icmp_ge (tgt := 85) dX1_find_54 (by decide) (pc' := 57) rfl (fun c => ?_) (fun c => ?_)
    · replace h := mm_it h c
      clear c
      refine mm_iload 4 dX1_find_85 rfl (pc' := 87) rfl ?_
      refine mm_iload 2 dX1_find_87 rfl (pc' := 89) rfl ?_
      refine mm_icmp_ge (tgt := 104) dX1_find_89 (by decide) (pc' := 92) rfl (fun c => ?_) (fun c => ?_)
      · replace h := mm_it h c
        clear c
        exact mm_sub [0, 1, 2, 3] rfl (s_X1_find_J104 (hr35 := hr35) h)
      · replace h := mm_if h c
        clear c
        refine mm_iload 4 dX1_find_92 rfl (pc' := 94) rfl ?_
        refine mm_istore dX1_find_94 (by decide) (l' := [(4, .int v6), (0, .ref 0), (2, .ref 26), (5, .int v5), (6, .int v6), (7, .int v7)]) rfl (pc' := 96) rfl ?_
        refine mm_aload_n 1 dX1_find_96 rfl rfl (pc' := 97) rfl ?_
        refine mm_aload_n 2 dX1_find_97 rfl rfl (pc' := 98) rfl ?_
        refine mm_getf fG_X1_47 dX1_find_98 rfl rfl (pc' := 101) rfl ?_
        obtain ⟨t101, h101, h⟩ := mm_bd h
        refine mm_call0 (As := [.int w_length]) (rest := []) cV_X1_65 (ok_X1_keepPlace h101) ⟨rfl, rfl, Nat.le_of_ble_eq_true rfl, Nat.le_of_ble_eq_true rfl⟩ dX1_find_101 rfl rfl rfl rfl (by rintro _ _ ⟨-, rfl⟩; rfl) (Nat.le_of_ble_eq_true rfl) ⟨Nat.le_of_ble_eq_true rfl, Nat.le_of_ble_eq_true rfl⟩ (pc' := 104) rfl ?_
        rintro rv w ⟨rfl, rfl⟩
        show mm_Wp _ _ _ _ 104 [(4, .int v6), (0, .ref 0), (2, .ref 26), (5, .int v5), (6, .int v6), (7, .int v7)] [] (W_X1_X5_X6 q_pains t101.1 t101.2 q_places_y q_places_boxes q_places_lastColumn q_places_lastTop q_places_columns q_deviations q_painsOfCell q_painsAt_0 q_painsAt_1 q_painsAt_2 q_shapeAt_0 q_shapeAt_1 q_shapeAt_2 u_wide u_high u_slackNow u_tenants u_letters u_readings u_kinds u_painOf u_payFor u_refused u_owned u_litIn u_shapes u_readAt u_meant u_readSo w_length w_bits w_letters)
        clear h101
        exact mm_sub [1, 2, 0, 3] rfl (s_X1_find_J104 (hr35 := hr35) h)
    · replace h := mm_if h c
      clear c
      refine mm_iload 4 dX1_find_57 rfl (pc' := 59) rfl ?_
      refine mm_aload_n 0 dX1_find_59 rfl rfl (pc' := 60) rfl ?_
      refine mm_getf fG_X1_37 dX1_find_60 rfl rfl (pc' := 63) rfl ?_
      refine mm_iload 5 dX1_find_63 rfl (pc' := 65) rfl ?_
      by_cases c0 : v7 = (0 : Int32)
      · replace h := mm_it h c0
        refine mm_aaldK (b := 8) (0 : Int32) c0 dX1_find_65 rfl ki_0_3 (congrArg (fun j => some (8 + j)) kt_0) (pc' := 66) rfl ?_
        clear c0
        refine mm_aload_n 0 dX1_find_66 rfl rfl (pc' := 67) rfl ?_
        refine mm_getf fG_X1_25 dX1_find_67 rfl rfl (pc' := 70) rfl ?_
        refine mm_iload 5 dX1_find_70 rfl (pc' := 72) rfl ?_
        obtain ⟨t72, h72, h⟩ := mm_bd h
        refine mm_callV (As := [.int v7]) (rest := [.ref 8, .int v6]) (av := [.ref 0, .int v7]) (wc := (W_X3 q_places_y q_places_boxes q_places_lastColumn q_places_lastTop q_places_columns)) (is := [3, 4]) cV_X1_61 (ok_X3_window h72) ⟨rfl, rfl, Nat.le_of_ble_eq_true rfl, Nat.le_of_ble_eq_true rfl⟩ dX1_find_72 rfl rfl rfl rfl rfl ⟨rfl, by decide, by decide⟩ (by rintro _ _ ⟨-, rfl⟩; rfl) (Nat.le_of_ble_eq_true rfl) ⟨Nat.le_of_ble_eq_true rfl, Nat.le_of_ble_eq_true rfl⟩ (pc' := 75) rfl ?_
        rintro rv w ⟨rfl, rfl⟩
        show mm_Wp _ _ _ _ 75 [(0, .ref 0), (2, .ref 26), (4, .int v4), (5, .int v5), (6, .int v6), (7, .int v7)] [.int t72, .ref 8, .int v6] (W_X1_X5_X6 q_pains q_windows q_shapes q_places_y q_places_boxes q_places_lastColumn q_places_lastTop q_places_columns q_deviations q_painsOfCell q_painsAt_0 q_painsAt_1 q_painsAt_2 q_shapeAt_0 q_shapeAt_1 q_shapeAt_2 u_wide u_high u_slackNow u_tenants u_letters u_readings u_kinds u_painOf u_payFor u_refused u_owned u_litIn u_shapes u_readAt u_meant u_readSo w_length w_bits w_letters)
        clear h72
        obtain ⟨x75, c75, e75, h⟩ := mm_rd_of h
        refine mm_iald dX1_find_75 rfl c75 e75 (pc' := 76) rfl ?_
        clear c75 e75
        refine mm_iadd dX1_find_76 (pc' := 77) rfl ?_
        refine mm_istore dX1_find_77 (by decide) (l' := [(6, .int (v6 + x75)), (0, .ref 0), (2, .ref 26), (4, .int v4), (5, .int v5), (7, .int v7)]) rfl (pc' := 79) rfl ?_
        refine mm_iinc 5 dX1_find_79 rfl ki_1 (by decide) (l' := [(7, .int (v7 + (1 : Int32))), (6, .int (v6 + x75)), (0, .ref 0), (2, .ref 26), (4, .int v4), (5, .int v5)]) rfl (pc' := 82) rfl ?_
        refine mm_goto (tgt := 48) dX1_find_82 (by decide) ?_
        exact mm_sub [2, 3, 4, 5, 1, 0] rfl (hr48 _ _ h)
      replace h := mm_if h c0
      by_cases c1 : v7 = (1 : Int32)
      · replace h := mm_it h c1
        refine mm_aaldK (b := 9) (1 : Int32) c1 dX1_find_65 rfl ki_1_3 (congrArg (fun j => some (8 + j)) kt_1) (pc' := 66) rfl ?_
        clear c0 c1
        refine mm_aload_n 0 dX1_find_66 rfl rfl (pc' := 67) rfl ?_
        refine mm_getf fG_X1_25 dX1_find_67 rfl rfl (pc' := 70) rfl ?_
        refine mm_iload 5 dX1_find_70 rfl (pc' := 72) rfl ?_
        obtain ⟨t72, h72, h⟩ := mm_bd h
        refine mm_callV (As := [.int v7]) (rest := [.ref 9, .int v6]) (av := [.ref 0, .int v7]) (wc := (W_X3 q_places_y q_places_boxes q_places_lastColumn q_places_lastTop q_places_columns)) (is := [3, 4]) cV_X1_61 (ok_X3_window h72) ⟨rfl, rfl, Nat.le_of_ble_eq_true rfl, Nat.le_of_ble_eq_true rfl⟩ dX1_find_72 rfl rfl rfl rfl rfl ⟨rfl, by decide, by decide⟩ (by rintro _ _ ⟨-, rfl⟩; rfl) (Nat.le_of_ble_eq_true rfl) ⟨Nat.le_of_ble_eq_true rfl, Nat.le_of_ble_eq_true rfl⟩ (pc' := 75) rfl ?_
        rintro rv w ⟨rfl, rfl⟩
        show mm_Wp _ _ _ _ 75 [(0, .ref 0), (2, .ref 26), (4, .int v4), (5, .int v5), (6, .int v6), (7, .int v7)] [.int t72, .ref 9, .int v6] (W_X1_X5_X6 q_pains q_windows q_shapes q_places_y q_places_boxes q_places_lastColumn q_places_lastTop q_places_columns q_deviations q_painsOfCell q_painsAt_0 q_painsAt_1 q_painsAt_2 q_shapeAt_0 q_shapeAt_1 q_shapeAt_2 u_wide u_high u_slackNow u_tenants u_letters u_readings u_kinds u_painOf u_payFor u_refused u_owned u_litIn u_shapes u_readAt u_meant u_readSo w_length w_bits w_letters)
        clear h72
        obtain ⟨x75, c75, e75, h⟩ := mm_rd_of h
        refine mm_iald dX1_find_75 rfl c75 e75 (pc' := 76) rfl ?_
        clear c75 e75
        refine mm_iadd dX1_find_76 (pc' := 77) rfl ?_
        refine mm_istore dX1_find_77 (by decide) (l' := [(6, .int (v6 + x75)), (0, .ref 0), (2, .ref 26), (4, .int v4), (5, .int v5), (7, .int v7)]) rfl (pc' := 79) rfl ?_
        refine mm_iinc 5 dX1_find_79 rfl ki_1 (by decide) (l' := [(7, .int (v7 + (1 : Int32))), (6, .int (v6 + x75)), (0, .ref 0), (2, .ref 26), (4, .int v4), (5, .int v5)]) rfl (pc' := 82) rfl ?_
        refine mm_goto (tgt := 48) dX1_find_82 (by decide) ?_
        exact mm_sub [2, 3, 4, 5, 1, 0] rfl (hr48 _ _ h)
      replace h := mm_if h c1
      by_cases c2 : v7 = (2 : Int32)
      · replace h := mm_it h c2
        refine mm_aaldK (b := 10) (2 : Int32) c2 dX1_find_65 rfl ki_2_3 (congrArg (fun j => some (8 + j)) kt_2) (pc' := 66) rfl ?_
        clear c0 c1 c2
        refine mm_aload_n 0 dX1_find_66 rfl rfl (pc' := 67) rfl ?_
        refine mm_getf fG_X1_25 dX1_find_67 rfl rfl (pc' := 70) rfl ?_
        refine mm_iload 5 dX1_find_70 rfl (pc' := 72) rfl ?_
        obtain ⟨t72, h72, h⟩ := mm_bd h
        refine mm_callV (As := [.int v7]) (rest := [.ref 10, .int v6]) (av := [.ref 0, .int v7]) (wc := (W_X3 q_places_y q_places_boxes q_places_lastColumn q_places_lastTop q_places_columns)) (is := [3, 4]) cV_X1_61 (ok_X3_window h72) ⟨rfl, rfl, Nat.le_of_ble_eq_true rfl, Nat.le_of_ble_eq_true rfl⟩ dX1_find_72 rfl rfl rfl rfl rfl ⟨rfl, by decide, by decide⟩ (by rintro _ _ ⟨-, rfl⟩; rfl) (Nat.le_of_ble_eq_true rfl) ⟨Nat.le_of_ble_eq_true rfl, Nat.le_of_ble_eq_true rfl⟩ (pc' := 75) rfl ?_
        rintro rv w ⟨rfl, rfl⟩
        show mm_Wp _ _ _ _ 75 [(0, .ref 0), (2, .ref 26), (4, .int v4), (5, .int v5), (6, .int v6), (7, .int v7)] [.int t72, .ref 10, .int v6] (W_X1_X5_X6 q_pains q_windows q_shapes q_places_y q_places_boxes q_places_lastColumn q_places_lastTop q_places_columns q_deviations q_painsOfCell q_painsAt_0 q_painsAt_1 q_painsAt_2 q_shapeAt_0 q_shapeAt_1 q_shapeAt_2 u_wide u_high u_slackNow u_tenants u_letters u_readings u_kinds u_painOf u_payFor u_refused u_owned u_litIn u_shapes u_readAt u_meant u_readSo w_length w_bits w_letters)
        clear h72
        obtain ⟨x75, c75, e75, h⟩ := mm_rd_of h
        refine mm_iald dX1_find_75 rfl c75 e75 (pc' := 76) rfl ?_
        clear c75 e75
        refine mm_iadd dX1_find_76 (pc' := 77) rfl ?_
        refine mm_istore dX1_find_77 (by decide) (l' := [(6, .int (v6 + x75)), (0, .ref 0), (2, .ref 26), (4, .int v4), (5, .int v5), (7, .int v7)]) rfl (pc' := 79) rfl ?_
        refine mm_iinc 5 dX1_find_79 rfl ki_1 (by decide) (l' := [(7, .int (v7 + (1 : Int32))), (6, .int (v6 + x75)), (0, .ref 0), (2, .ref 26), (4, .int v4), (5, .int v5)]) rfl (pc' := 82) rfl ?_
        refine mm_goto (tgt := 48) dX1_find_82 (by decide) ?_
        exact mm_sub [2, 3, 4, 5, 1, 0] rfl (hr48 _ _ h)
      replace h := mm_if h c2
      cases h
def X1_find_L35 (fu : Nat)  (q_pains : Int32) (q_places_boxes : Int32) (q_places_lastColumn : Int32) (q_places_lastTop : Int32) (q_deviations : Nat → Int32) (q_painsOfCell : Nat → Int32) (q_painsAt_0 : Nat → Int32) (q_painsAt_1 : Nat → Int32) (q_painsAt_2 : Nat → Int32) (q_shapeAt_0 : Nat → Int32) (q_shapeAt_1 : Nat → Int32) (q_shapeAt_2 : Nat → Int32) (u_wide : Int32) (u_high : Int32) (u_slackNow : Int32) (u_tenants : Int32) (u_letters : Int32) (u_kinds : Nat → Int32) (u_painOf : Nat → Int32) (u_refused : Nat → Int32) (u_owned : Nat → Int64) (u_litIn : Nat → Int64) (u_shapes : Nat → Int32) (w_length : Int32) (w_bits : Int32) (w_letters : Nat → Int32)  : Nat → (Nat → Int32) → (Nat → Int32) → Int32 → (Nat → Int32) → Int32 → Int32 → Option (Int32 × (Nat → Int32) × (Nat → Int32) × Int32 × Int32 × Int32 × Int32 × (Nat → Int32) × (Nat → Int32) × (Nat → Int32) × (Nat → Int32) × (Nat → Int32) × (Nat → Int32) × (Nat → Int32) × (Nat → Int32))
  | 0, _, _, _, _, _, _ => none
  | n + 1, q_windows, q_shapes, q_places_y, q_places_columns, v4, v5 => if (42 : Int32) ≤ v5 then (X1_find_J123 fu q_pains q_windows q_shapes q_places_y q_places_boxes q_places_lastColumn q_places_lastTop q_places_columns q_deviations q_painsOfCell q_painsAt_0 q_painsAt_1 q_painsAt_2 q_shapeAt_0 q_shapeAt_1 q_shapeAt_2 u_wide u_high u_slackNow u_tenants u_letters u_kinds u_painOf u_refused u_owned u_litIn u_shapes w_length w_bits w_letters v4) else (X1_find_L48 fu (X1_find_L35 fu q_pains q_places_boxes q_places_lastColumn q_places_lastTop q_deviations q_painsOfCell q_painsAt_0 q_painsAt_1 q_painsAt_2 q_shapeAt_0 q_shapeAt_1 q_shapeAt_2 u_wide u_high u_slackNow u_tenants u_letters u_kinds u_painOf u_refused u_owned u_litIn u_shapes w_length w_bits w_letters n) q_pains q_windows q_shapes q_places_y q_places_boxes q_places_lastColumn q_places_lastTop q_places_columns q_deviations q_painsOfCell q_painsAt_0 q_painsAt_1 q_painsAt_2 q_shapeAt_0 q_shapeAt_1 q_shapeAt_2 u_wide u_high u_slackNow u_tenants u_letters u_kinds u_painOf u_refused u_owned u_litIn u_shapes w_length w_bits w_letters v4 v5 fu (0 : Int32) (0 : Int32))
set_option maxHeartbeats 4000000 in
set_option maxRecDepth 100000 in
theorem s_X1_find_L35 {fu : Nat} {q_pains : Int32} {q_places_boxes : Int32} {q_places_lastColumn : Int32} {q_places_lastTop : Int32} {q_deviations : Nat → Int32} {q_painsOfCell : Nat → Int32} {q_painsAt_0 : Nat → Int32} {q_painsAt_1 : Nat → Int32} {q_painsAt_2 : Nat → Int32} {q_shapeAt_0 : Nat → Int32} {q_shapeAt_1 : Nat → Int32} {q_shapeAt_2 : Nat → Int32} {u_wide : Int32} {u_high : Int32} {u_slackNow : Int32} {u_tenants : Int32} {u_letters : Int32} {u_readings : Int32} {u_kinds : Nat → Int32} {u_painOf : Nat → Int32} {u_payFor : Nat → Int32} {u_refused : Nat → Int32} {u_owned : Nat → Int64} {u_litIn : Nat → Int64} {u_shapes : Nat → Int32} {u_readAt : Nat → Int32} {u_meant : Nat → Int32} {u_readSo : Nat → Int32} {w_length : Int32} {w_bits : Int32} {w_letters : Nat → Int32} {r : Int32 × (Nat → Int32) × (Nat → Int32) × Int32 × Int32 × Int32 × Int32 × (Nat → Int32) × (Nat → Int32) × (Nat → Int32) × (Nat → Int32) × (Nat → Int32) × (Nat → Int32) × (Nat → Int32) × (Nat → Int32)} : ∀ (n : Nat) (q_windows : Nat → Int32) (q_shapes : Nat → Int32) (q_places_y : Int32) (q_places_columns : Nat → Int32) (v4 : Int32) (v5 : Int32), X1_find_L35 fu q_pains q_places_boxes q_places_lastColumn q_places_lastTop q_deviations q_painsOfCell q_painsAt_0 q_painsAt_1 q_painsAt_2 q_shapeAt_0 q_shapeAt_1 q_shapeAt_2 u_wide u_high u_slackNow u_tenants u_letters u_kinds u_painOf u_refused u_owned u_litIn u_shapes w_length w_bits w_letters n q_windows q_shapes q_places_y q_places_columns v4 v5 = some r → mm_Wp mX1_find (mm_R (P_X1_find q_deviations u_wide u_high u_slackNow u_tenants u_letters u_readings u_kinds u_painOf u_payFor u_refused u_owned u_litIn u_shapes u_readAt u_meant u_readSo w_length w_bits w_letters r)) 0 0 35 [(0, .ref 0), (2, .ref 26), (4, .int v4), (5, .int v5)] [] (W_X1_X5_X6 q_pains q_windows q_shapes q_places_y q_places_boxes q_places_lastColumn q_places_lastTop q_places_columns q_deviations q_painsOfCell q_painsAt_0 q_painsAt_1 q_painsAt_2 q_shapeAt_0 q_shapeAt_1 q_shapeAt_2 u_wide u_high u_slackNow u_tenants u_letters u_readings u_kinds u_painOf u_payFor u_refused u_owned u_litIn u_shapes u_readAt u_meant u_readSo w_length w_bits w_letters) := by
  intro n
  induction n with
  | zero =>
    intro q_windows q_shapes q_places_y q_places_columns v4 v5 h
    rw [X1_find_L35] at h
    cases h
  | succ n hr35 =>
    intro q_windows q_shapes q_places_y q_places_columns v4 v5 h
    rw [X1_find_L35] at h
    refine mm_iload 3 dX1_find_35 rfl (pc' := 37) rfl ?_
    refine mm_bipush dX1_find_37 kb_42 (pc' := 39) rfl ?_
    refine mm_icmp_ge (tgt := 123) dX1_find_39 (by decide) (pc' := 42) rfl (fun c => ?_) (fun c => ?_)
    · replace h := mm_it h c
      clear c
      exact mm_sub [0, 2] rfl (s_X1_find_J123  h)
    · replace h := mm_if h c
      clear c
      refine mm_iconst dX1_find_42 ki_0 (pc' := 43) rfl ?_
      refine mm_istore dX1_find_43 (by decide) (l' := [(6, .int (0 : Int32)), (0, .ref 0), (2, .ref 26), (4, .int v4), (5, .int v5)]) rfl (pc' := 45) rfl ?_
      refine mm_iconst dX1_find_45 ki_0 (pc' := 46) rfl ?_
      refine mm_istore dX1_find_46 (by decide) (l' := [(7, .int (0 : Int32)), (6, .int (0 : Int32)), (0, .ref 0), (2, .ref 26), (4, .int v4), (5, .int v5)]) rfl (pc' := 48) rfl ?_
      exact mm_sub [2, 3, 4, 5, 1, 0] rfl (s_X1_find_L48 (hr35 := hr35) _ _ _ h)
def f_X1_find (fu : Nat) (q_pains : Int32) (q_windows : Nat → Int32) (q_shapes : Nat → Int32) (q_places_y : Int32) (q_places_boxes : Int32) (q_places_lastColumn : Int32) (q_places_lastTop : Int32) (q_places_columns : Nat → Int32) (q_deviations : Nat → Int32) (q_painsOfCell : Nat → Int32) (q_painsAt_0 : Nat → Int32) (q_painsAt_1 : Nat → Int32) (q_painsAt_2 : Nat → Int32) (q_shapeAt_0 : Nat → Int32) (q_shapeAt_1 : Nat → Int32) (q_shapeAt_2 : Nat → Int32) (u_wide : Int32) (u_high : Int32) (u_slackNow : Int32) (u_tenants : Int32) (u_letters : Int32) (u_kinds : Nat → Int32) (u_painOf : Nat → Int32) (u_refused : Nat → Int32) (u_owned : Nat → Int64) (u_litIn : Nat → Int64) (u_shapes : Nat → Int32) (w_length : Int32) (w_bits : Int32) (w_letters : Nat → Int32) (v3 : Int32) : Option (Int32 × (Nat → Int32) × (Nat → Int32) × Int32 × Int32 × Int32 × Int32 × (Nat → Int32) × (Nat → Int32) × (Nat → Int32) × (Nat → Int32) × (Nat → Int32) × (Nat → Int32) × (Nat → Int32) × (Nat → Int32)) := (f_X3_begin fu q_places_y q_places_boxes q_places_lastColumn q_places_lastTop q_places_columns u_wide u_high w_length).bind fun t14 => if t14.1 = 0 then (some ((-1 : Int32), q_windows, q_shapes, t14.2.1, t14.2.2.1, t14.2.2.2.1, t14.2.2.2.2.1, t14.2.2.2.2.2, q_painsOfCell, q_painsAt_0, q_painsAt_1, q_painsAt_2, q_shapeAt_0, q_shapeAt_1, q_shapeAt_2)) else ((f_X1_shapeAllBoxes fu t14.2.2.1 t14.2.2.2.1 q_deviations q_painsOfCell q_painsAt_0 q_painsAt_1 q_painsAt_2 q_shapeAt_0 q_shapeAt_1 q_shapeAt_2 u_high u_slackNow u_tenants u_letters u_kinds u_painOf u_refused u_owned u_litIn u_shapes w_length w_bits w_letters v3).bind fun t25 => X1_find_L35 fu (-1 : Int32) t14.2.2.1 t14.2.2.2.1 t14.2.2.2.2.1 q_deviations t25.1 t25.2.1 t25.2.2.1 t25.2.2.2.1 t25.2.2.2.2.1 t25.2.2.2.2.2.1 t25.2.2.2.2.2.2 u_wide u_high u_slackNow u_tenants u_letters u_kinds u_painOf u_refused u_owned u_litIn u_shapes w_length w_bits w_letters fu q_windows q_shapes t14.2.1 t14.2.2.2.2.2 (1000000 : Int32) (0 : Int32))
set_option maxHeartbeats 4000000 in
set_option maxRecDepth 100000 in
theorem ok_X1_find {fu : Nat} {q_pains : Int32} {q_windows : Nat → Int32} {q_shapes : Nat → Int32} {q_places_y : Int32} {q_places_boxes : Int32} {q_places_lastColumn : Int32} {q_places_lastTop : Int32} {q_places_columns : Nat → Int32} {q_deviations : Nat → Int32} {q_painsOfCell : Nat → Int32} {q_painsAt_0 : Nat → Int32} {q_painsAt_1 : Nat → Int32} {q_painsAt_2 : Nat → Int32} {q_shapeAt_0 : Nat → Int32} {q_shapeAt_1 : Nat → Int32} {q_shapeAt_2 : Nat → Int32} {u_wide : Int32} {u_high : Int32} {u_slackNow : Int32} {u_tenants : Int32} {u_letters : Int32} {u_readings : Int32} {u_kinds : Nat → Int32} {u_painOf : Nat → Int32} {u_payFor : Nat → Int32} {u_refused : Nat → Int32} {u_owned : Nat → Int64} {u_litIn : Nat → Int64} {u_shapes : Nat → Int32} {u_readAt : Nat → Int32} {u_meant : Nat → Int32} {u_readSo : Nat → Int32} {w_length : Int32} {w_bits : Int32} {w_letters : Nat → Int32} {r : Int32 × (Nat → Int32) × (Nat → Int32) × Int32 × Int32 × Int32 × Int32 × (Nat → Int32) × (Nat → Int32) × (Nat → Int32) × (Nat → Int32) × (Nat → Int32) × (Nat → Int32) × (Nat → Int32) × (Nat → Int32)} {v3 : Int32} (h : f_X1_find fu q_pains q_windows q_shapes q_places_y q_places_boxes q_places_lastColumn q_places_lastTop q_places_columns q_deviations q_painsOfCell q_painsAt_0 q_painsAt_1 q_painsAt_2 q_shapeAt_0 q_shapeAt_1 q_shapeAt_2 u_wide u_high u_slackNow u_tenants u_letters u_kinds u_painOf u_refused u_owned u_litIn u_shapes w_length w_bits w_letters v3 = some r) : mm_Ok mX1_find [.ref 0, .ref 15, .ref 26, .int v3] (W_X1_X5_X6 q_pains q_windows q_shapes q_places_y q_places_boxes q_places_lastColumn q_places_lastTop q_places_columns q_deviations q_painsOfCell q_painsAt_0 q_painsAt_1 q_painsAt_2 q_shapeAt_0 q_shapeAt_1 q_shapeAt_2 u_wide u_high u_slackNow u_tenants u_letters u_readings u_kinds u_painOf u_payFor u_refused u_owned u_litIn u_shapes u_readAt u_meant u_readSo w_length w_bits w_letters) (P_X1_find q_deviations u_wide u_high u_slackNow u_tenants u_letters u_readings u_kinds u_painOf u_payFor u_refused u_owned u_litIn u_shapes u_readAt u_meant u_readSo w_length w_bits w_letters r) := by
  rw [f_X1_find] at h
  refine mm_Ok.of pn_X1 (l := [(0, .ref 0), (1, .ref 15), (2, .ref 26), (3, .int v3)]) rfl (Nat.le_of_ble_eq_true rfl) ?_
  refine mm_aload_n 0 dX1_find_0 rfl rfl (pc' := 1) rfl ?_
  refine mm_iconst dX1_find_1 ki_m1 (pc' := 2) rfl ?_
  refine mm_putf fP_X1_9 dX1_find_2 rfl (Nat.le_of_ble_eq_true rfl) (fun _ => rfl) (fun _ => rfl) (ws' := (W_X1_X5_X6 (-1 : Int32) q_windows q_shapes q_places_y q_places_boxes q_places_lastColumn q_places_lastTop q_places_columns q_deviations q_painsOfCell q_painsAt_0 q_painsAt_1 q_painsAt_2 q_shapeAt_0 q_shapeAt_1 q_shapeAt_2 u_wide u_high u_slackNow u_tenants u_letters u_readings u_kinds u_painOf u_payFor u_refused u_owned u_litIn u_shapes u_readAt u_meant u_readSo w_length w_bits w_letters)) rfl (pc' := 5) rfl ?_
  refine mm_aload_n 0 dX1_find_5 rfl rfl (pc' := 6) rfl ?_
  refine mm_getf fG_X1_25 dX1_find_6 rfl rfl (pc' := 9) rfl ?_
  refine mm_aload_n 2 dX1_find_9 rfl rfl (pc' := 10) rfl ?_
  refine mm_getf fG_X1_47 dX1_find_10 rfl rfl (pc' := 13) rfl ?_
  refine mm_aload_n 1 dX1_find_13 rfl rfl (pc' := 14) rfl ?_
  obtain ⟨t14, h14, h⟩ := mm_bd h
  refine mm_callV (As := [.int w_length, .ref 15]) (rest := []) (av := [.ref 0, .int w_length, .ref 2]) (wc := (W_X3_X5 q_places_y q_places_boxes q_places_lastColumn q_places_lastTop q_places_columns u_wide u_high u_slackNow u_tenants u_letters u_readings u_kinds u_painOf u_payFor u_refused u_owned u_litIn u_shapes u_readAt u_meant u_readSo)) (is := [3, 4, 15, 16, 17, 18, 19, 20, 21, 22, 23, 24, 25]) cV_X1_52 (ok_X3_begin h14) ⟨rfl, rfl, Nat.le_of_ble_eq_true rfl, Nat.le_of_ble_eq_true rfl⟩ dX1_find_14 rfl rfl rfl rfl rfl ⟨rfl, by decide, by decide⟩ (by rintro _ _ ⟨-, rfl⟩; rfl) (Nat.le_of_ble_eq_true rfl) ⟨Nat.le_of_ble_eq_true rfl, Nat.le_of_ble_eq_true rfl⟩ (pc' := 17) rfl ?_
  rintro rv w ⟨rfl, rfl⟩
  show mm_Wp _ _ _ _ 17 [(0, .ref 0), (1, .ref 15), (2, .ref 26), (3, .int v3)] [.int t14.1] (W_X1_X5_X6 (-1 : Int32) q_windows q_shapes t14.2.1 t14.2.2.1 t14.2.2.2.1 t14.2.2.2.2.1 t14.2.2.2.2.2 q_deviations q_painsOfCell q_painsAt_0 q_painsAt_1 q_painsAt_2 q_shapeAt_0 q_shapeAt_1 q_shapeAt_2 u_wide u_high u_slackNow u_tenants u_letters u_readings u_kinds u_painOf u_payFor u_refused u_owned u_litIn u_shapes u_readAt u_meant u_readSo w_length w_bits w_letters)
  clear h14
  refine mm_if_ne (tgt := 21) dX1_find_17 (by decide) (pc' := 20) rfl (fun c => ?_) (fun c => ?_)
  · replace h := mm_if h c
    clear c
    refine mm_aload_n 0 dX1_find_21 rfl rfl (pc' := 22) rfl ?_
    refine mm_aload_n 1 dX1_find_22 rfl rfl (pc' := 23) rfl ?_
    refine mm_aload_n 2 dX1_find_23 rfl rfl (pc' := 24) rfl ?_
    refine mm_iload_n 3 dX1_find_24 rfl rfl (pc' := 25) rfl ?_
    obtain ⟨t25, h25, h⟩ := mm_bd h
    refine mm_call0 (As := [.ref 15, .ref 26, .int v3]) (rest := []) cV_X1_56 (ok_X1_shapeAllBoxes h25) ⟨rfl, rfl, Nat.le_of_ble_eq_true rfl, Nat.le_of_ble_eq_true rfl⟩ dX1_find_25 rfl rfl rfl rfl (by rintro _ _ ⟨-, rfl⟩; rfl) (Nat.le_of_ble_eq_true rfl) ⟨Nat.le_of_ble_eq_true rfl, Nat.le_of_ble_eq_true rfl⟩ (pc' := 28) rfl ?_
    rintro rv w ⟨rfl, rfl⟩
    show mm_Wp _ _ _ _ 28 [(0, .ref 0), (1, .ref 15), (2, .ref 26), (3, .int v3)] [] (W_X1_X5_X6 (-1 : Int32) q_windows q_shapes t14.2.1 t14.2.2.1 t14.2.2.2.1 t14.2.2.2.2.1 t14.2.2.2.2.2 q_deviations t25.1 t25.2.1 t25.2.2.1 t25.2.2.2.1 t25.2.2.2.2.1 t25.2.2.2.2.2.1 t25.2.2.2.2.2.2 u_wide u_high u_slackNow u_tenants u_letters u_readings u_kinds u_painOf u_payFor u_refused u_owned u_litIn u_shapes u_readAt u_meant u_readSo w_length w_bits w_letters)
    clear h25
    refine mm_ldc kC_X1_60 dX1_find_28 (pc' := 30) rfl ?_
    refine mm_istore dX1_find_30 (by decide) (l' := [(4, .int (1000000 : Int32)), (0, .ref 0), (1, .ref 15), (2, .ref 26), (3, .int v3)]) rfl (pc' := 32) rfl ?_
    refine mm_iconst dX1_find_32 ki_0 (pc' := 33) rfl ?_
    refine mm_istore dX1_find_33 (by decide) (l' := [(5, .int (0 : Int32)), (4, .int (1000000 : Int32)), (0, .ref 0), (1, .ref 15), (2, .ref 26), (3, .int v3)]) rfl (pc' := 35) rfl ?_
    exact mm_sub [2, 4, 1, 0] rfl (s_X1_find_L35  _ _ _ _ _ _ _ h)
  · replace h := mm_it h c
    clear c
    have h9 := Option.some.inj h
    subst h9
    exact mm_vret rfl dX1_find_20 ⟨rfl, rfl⟩

def P_X2_picture (q_known : Int32) (q_lights : Nat → Int64) (q_places_y : Int32) (q_places_boxes : Int32) (q_places_lastColumn : Int32) (q_places_lastTop : Int32) (q_places_columns : Nat → Int32) (u_wide : Int32) (u_high : Int32) (u_slackNow : Int32) (u_tenants : Int32) (u_letters : Int32) (u_readings : Int32) (u_kinds : Nat → Int32) (u_painOf : Nat → Int32) (u_payFor : Nat → Int32) (u_refused : Nat → Int32) (u_owned : Nat → Int64) (u_litIn : Nat → Int64) (u_shapes : Nat → Int32) (u_readAt : Nat → Int32) (u_meant : Nat → Int32) (u_readSo : Nat → Int32) (w_length : Int32) (w_bits : Int32) (w_letters : Nat → Int32) (r : Int64) : Option Value → mm_W → Prop := fun rv w => rv = some (.long r) ∧ w = (W_X2_X5_X6 q_known q_lights q_places_y q_places_boxes q_places_lastColumn q_places_lastTop q_places_columns u_wide u_high u_slackNow u_tenants u_letters u_readings u_kinds u_painOf u_payFor u_refused u_owned u_litIn u_shapes u_readAt u_meant u_readSo w_length w_bits w_letters)
def X2_picture_L6 (fu : Nat)  (q_places_y : Int32) (q_places_columns : Nat → Int32) (u_shapes : Nat → Int32) (w_length : Int32) (w_letters : Nat → Int32)  : Nat → Int64 → Int32 → Option (Int64)
  | 0, _, _ => none
  | n + 1, v5, v7 => if w_length ≤ v7 then (some (v5)) else ((f_X3_window fu q_places_y q_places_columns v7).bind fun t21 => (f_X7_windowsOf fu (4095 : Int32) t21).bind fun t33 => mm_let (v5 &&& (t33 ^^^ (-1 : Int64))) fun y41 => mm_rd w_letters 3 v7 fun x55 => mm_rd u_shapes 6 x55 fun x56 => (f_X7_windowsOf fu x56 t21).bind fun t59 => (X2_picture_L6 fu q_places_y q_places_columns u_shapes w_length w_letters n) (y41 ||| t59) (v7 + (1 : Int32)))
set_option maxHeartbeats 4000000 in
set_option maxRecDepth 100000 in
theorem s_X2_picture_L6 {fu : Nat} {q_known : Int32} {q_lights : Nat → Int64} {q_places_y : Int32} {q_places_boxes : Int32} {q_places_lastColumn : Int32} {q_places_lastTop : Int32} {q_places_columns : Nat → Int32} {u_wide : Int32} {u_high : Int32} {u_slackNow : Int32} {u_tenants : Int32} {u_letters : Int32} {u_readings : Int32} {u_kinds : Nat → Int32} {u_painOf : Nat → Int32} {u_payFor : Nat → Int32} {u_refused : Nat → Int32} {u_owned : Nat → Int64} {u_litIn : Nat → Int64} {u_shapes : Nat → Int32} {u_readAt : Nat → Int32} {u_meant : Nat → Int32} {u_readSo : Nat → Int32} {w_length : Int32} {w_bits : Int32} {w_letters : Nat → Int32} {r : Int64} : ∀ (n : Nat) (v5 : Int64) (v7 : Int32), X2_picture_L6 fu q_places_y q_places_columns u_shapes w_length w_letters n v5 v7 = some r → mm_Wp mX2_picture (mm_R (P_X2_picture q_known q_lights q_places_y q_places_boxes q_places_lastColumn q_places_lastTop q_places_columns u_wide u_high u_slackNow u_tenants u_letters u_readings u_kinds u_painOf u_payFor u_refused u_owned u_litIn u_shapes u_readAt u_meant u_readSo w_length w_bits w_letters r)) 0 0 6 [(0, .ref 0), (1, .ref 4), (2, .ref 15), (5, .long v5), (7, .int v7)] [] (W_X2_X5_X6 q_known q_lights q_places_y q_places_boxes q_places_lastColumn q_places_lastTop q_places_columns u_wide u_high u_slackNow u_tenants u_letters u_readings u_kinds u_painOf u_payFor u_refused u_owned u_litIn u_shapes u_readAt u_meant u_readSo w_length w_bits w_letters) := by
  intro n
  induction n with
  | zero =>
    intro v5 v7 h
    rw [X2_picture_L6] at h
    cases h
  | succ n hr6 =>
    intro v5 v7 h
    rw [X2_picture_L6] at h
    refine mm_iload 4 dX2_picture_6 rfl (pc' := 8) rfl ?_
    refine mm_aload_n 2 dX2_picture_8 rfl rfl (pc' := 9) rfl ?_
    refine mm_getf fG_X2_26 dX2_picture_9 rfl rfl (pc' := 12) rfl ?_
    refine mm_icmp_ge (tgt := 71) dX2_picture_12 (by decide) (pc' := 15) rfl (fun c => ?_) (fun c => ?_)
    · replace h := mm_it h c
      clear c
      refine mm_lload 3 dX2_picture_71 rfl (pc' := 73) rfl ?_
      have h9 := Option.some.inj h
      subst h9
      exact mm_lret rfl dX2_picture_73 ⟨rfl, rfl⟩
    · replace h := mm_if h c
      clear c
      refine mm_aload_n 0 dX2_picture_15 rfl rfl (pc' := 16) rfl ?_
      refine mm_getf fG_X2_22 dX2_picture_16 rfl rfl (pc' := 19) rfl ?_
      refine mm_iload 4 dX2_picture_19 rfl (pc' := 21) rfl ?_
      obtain ⟨t21, h21, h⟩ := mm_bd h
      refine mm_callV (As := [.int v7]) (rest := []) (av := [.ref 0, .int v7]) (wc := (W_X3 q_places_y q_places_boxes q_places_lastColumn q_places_lastTop q_places_columns)) (is := [2, 3]) cV_X2_57 (ok_X3_window h21) ⟨rfl, rfl, Nat.le_of_ble_eq_true rfl, Nat.le_of_ble_eq_true rfl⟩ dX2_picture_21 rfl rfl rfl rfl rfl ⟨rfl, by decide, by decide⟩ (by rintro _ _ ⟨-, rfl⟩; rfl) (Nat.le_of_ble_eq_true rfl) ⟨Nat.le_of_ble_eq_true rfl, Nat.le_of_ble_eq_true rfl⟩ (pc' := 24) rfl ?_
      rintro rv w ⟨rfl, rfl⟩
      show mm_Wp _ _ _ _ 24 [(0, .ref 0), (1, .ref 4), (2, .ref 15), (5, .long v5), (7, .int v7)] [.int t21] (W_X2_X5_X6 q_known q_lights q_places_y q_places_boxes q_places_lastColumn q_places_lastTop q_places_columns u_wide u_high u_slackNow u_tenants u_letters u_readings u_kinds u_painOf u_payFor u_refused u_owned u_litIn u_shapes u_readAt u_meant u_readSo w_length w_bits w_letters)
      clear h21
      refine mm_istore dX2_picture_24 (by decide) (l' := [(8, .int t21), (0, .ref 0), (1, .ref 4), (2, .ref 15), (5, .long v5), (7, .int v7)]) rfl (pc' := 26) rfl ?_
      refine mm_lload 4 dX2_picture_26 rfl (pc' := 28) rfl ?_
      refine mm_sipush dX2_picture_28 ks_4095 (pc' := 31) rfl ?_
      refine mm_iload 0 dX2_picture_31 rfl (pc' := 33) rfl ?_
      obtain ⟨t33, h33, h⟩ := mm_bd h
      refine mm_callSN (As := [.int (4095 : Int32), .int t21]) (rest := [.long v5]) (av := [.int (4095 : Int32), .int t21]) (wc := []) (is := []) cN_X2_61 (ok_X7_windowsOf h33) ⟨rfl, rfl, Nat.le_of_ble_eq_true rfl, Nat.le_of_ble_eq_true rfl⟩ dX2_picture_33 rfl rfl rfl ⟨rfl, by decide, by decide⟩ (by rintro _ _ ⟨-, rfl⟩; rfl) (Nat.le_of_ble_eq_true rfl) ⟨Nat.le_of_ble_eq_true rfl, Nat.le_of_ble_eq_true rfl⟩ (pc' := 36) rfl ?_
      rintro rv w ⟨rfl, rfl⟩
      show mm_Wp _ _ _ _ 36 [(8, .int t21), (0, .ref 0), (1, .ref 4), (2, .ref 15), (5, .long v5), (7, .int v7)] [.long t33, .long v5] (W_X2_X5_X6 q_known q_lights q_places_y q_places_boxes q_places_lastColumn q_places_lastTop q_places_columns u_wide u_high u_slackNow u_tenants u_letters u_readings u_kinds u_painOf u_payFor u_refused u_owned u_litIn u_shapes u_readAt u_meant u_readSo w_length w_bits w_letters)
      clear h33
      refine mm_ldc2 kC_X2_51 dX2_picture_36 (pc' := 39) rfl ?_
      refine mm_lxor dX2_picture_39 (pc' := 40) rfl ?_
      refine mm_land dX2_picture_40 (pc' := 41) rfl ?_
      refine mm_topl (fun y41 e => ?_)
      replace h := mm_let_of h y41 e
      clear e
      refine mm_lstore dX2_picture_41 (by decide) (l' := [(5, .long y41), (8, .int t21), (0, .ref 0), (1, .ref 4), (2, .ref 15), (7, .int v7)]) rfl (pc' := 43) rfl ?_
      refine mm_lload 0 dX2_picture_43 rfl (pc' := 45) rfl ?_
      refine mm_aload_n 3 dX2_picture_45 rfl rfl (pc' := 46) rfl ?_
      refine mm_getf fG_X2_65 dX2_picture_46 rfl rfl (pc' := 49) rfl ?_
      refine mm_aload_n 4 dX2_picture_49 rfl rfl (pc' := 50) rfl ?_
      refine mm_getf fG_X2_69 dX2_picture_50 rfl rfl (pc' := 53) rfl ?_
      refine mm_iload 5 dX2_picture_53 rfl (pc' := 55) rfl ?_
      obtain ⟨x55, c55, e55, h⟩ := mm_rd_of h
      refine mm_iald dX2_picture_55 rfl c55 e55 (pc' := 56) rfl ?_
      clear c55 e55
      obtain ⟨x56, c56, e56, h⟩ := mm_rd_of h
      refine mm_iald dX2_picture_56 rfl c56 e56 (pc' := 57) rfl ?_
      clear c56 e56
      refine mm_iload 1 dX2_picture_57 rfl (pc' := 59) rfl ?_
      obtain ⟨t59, h59, h⟩ := mm_bd h
      refine mm_callSN (As := [.int x56, .int t21]) (rest := [.long y41]) (av := [.int x56, .int t21]) (wc := []) (is := []) cN_X2_61 (ok_X7_windowsOf h59) ⟨rfl, rfl, Nat.le_of_ble_eq_true rfl, Nat.le_of_ble_eq_true rfl⟩ dX2_picture_59 rfl rfl rfl ⟨rfl, by decide, by decide⟩ (by rintro _ _ ⟨-, rfl⟩; rfl) (Nat.le_of_ble_eq_true rfl) ⟨Nat.le_of_ble_eq_true rfl, Nat.le_of_ble_eq_true rfl⟩ (pc' := 62) rfl ?_
      rintro rv w ⟨rfl, rfl⟩
      show mm_Wp _ _ _ _ 62 [(5, .long y41), (8, .int t21), (0, .ref 0), (1, .ref 4), (2, .ref 15), (7, .int v7)] [.long t59, .long y41] (W_X2_X5_X6 q_known q_lights q_places_y q_places_boxes q_places_lastColumn q_places_lastTop q_places_columns u_wide u_high u_slackNow u_tenants u_letters u_readings u_kinds u_painOf u_payFor u_refused u_owned u_litIn u_shapes u_readAt u_meant u_readSo w_length w_bits w_letters)
      clear h59
      refine mm_lor dX2_picture_62 (pc' := 63) rfl ?_
      refine mm_lstore dX2_picture_63 (by decide) (l' := [(5, .long (y41 ||| t59)), (8, .int t21), (0, .ref 0), (1, .ref 4), (2, .ref 15), (7, .int v7)]) rfl (pc' := 65) rfl ?_
      refine mm_iinc 5 dX2_picture_65 rfl ki_1 (by decide) (l' := [(7, .int (v7 + (1 : Int32))), (5, .long (y41 ||| t59)), (8, .int t21), (0, .ref 0), (1, .ref 4), (2, .ref 15)]) rfl (pc' := 68) rfl ?_
      refine mm_goto (tgt := 6) dX2_picture_68 (by decide) ?_
      exact mm_sub [3, 4, 5, 1, 0] rfl (hr6 _ _ h)
def f_X2_picture (fu : Nat) (q_places_y : Int32) (q_places_columns : Nat → Int32) (u_shapes : Nat → Int32) (w_length : Int32) (w_letters : Nat → Int32) (v3 : Int64) : Option (Int64) := X2_picture_L6 fu q_places_y q_places_columns u_shapes w_length w_letters fu v3 (0 : Int32)
set_option maxHeartbeats 4000000 in
set_option maxRecDepth 100000 in
theorem ok_X2_picture {fu : Nat} {q_known : Int32} {q_lights : Nat → Int64} {q_places_y : Int32} {q_places_boxes : Int32} {q_places_lastColumn : Int32} {q_places_lastTop : Int32} {q_places_columns : Nat → Int32} {u_wide : Int32} {u_high : Int32} {u_slackNow : Int32} {u_tenants : Int32} {u_letters : Int32} {u_readings : Int32} {u_kinds : Nat → Int32} {u_painOf : Nat → Int32} {u_payFor : Nat → Int32} {u_refused : Nat → Int32} {u_owned : Nat → Int64} {u_litIn : Nat → Int64} {u_shapes : Nat → Int32} {u_readAt : Nat → Int32} {u_meant : Nat → Int32} {u_readSo : Nat → Int32} {w_length : Int32} {w_bits : Int32} {w_letters : Nat → Int32} {r : Int64} {v3 : Int64} (h : f_X2_picture fu q_places_y q_places_columns u_shapes w_length w_letters v3 = some r) : mm_Ok mX2_picture [.ref 0, .ref 4, .ref 15, .long v3] (W_X2_X5_X6 q_known q_lights q_places_y q_places_boxes q_places_lastColumn q_places_lastTop q_places_columns u_wide u_high u_slackNow u_tenants u_letters u_readings u_kinds u_painOf u_payFor u_refused u_owned u_litIn u_shapes u_readAt u_meant u_readSo w_length w_bits w_letters) (P_X2_picture q_known q_lights q_places_y q_places_boxes q_places_lastColumn q_places_lastTop q_places_columns u_wide u_high u_slackNow u_tenants u_letters u_readings u_kinds u_painOf u_payFor u_refused u_owned u_litIn u_shapes u_readAt u_meant u_readSo w_length w_bits w_letters r) := by
  rw [f_X2_picture] at h
  refine mm_Ok.of pn_X2 (l := [(0, .ref 0), (1, .ref 4), (2, .ref 15), (3, .long v3)]) rfl (Nat.le_of_ble_eq_true rfl) ?_
  refine mm_lload_n 3 dX2_picture_0 rfl rfl (pc' := 1) rfl ?_
  refine mm_lstore dX2_picture_1 (by decide) (l' := [(5, .long v3), (0, .ref 0), (1, .ref 4), (2, .ref 15), (3, .long v3)]) rfl (pc' := 3) rfl ?_
  refine mm_iconst dX2_picture_3 ki_0 (pc' := 4) rfl ?_
  refine mm_istore dX2_picture_4 (by decide) (l' := [(7, .int (0 : Int32)), (5, .long v3), (0, .ref 0), (1, .ref 4), (2, .ref 15), (3, .long v3)]) rfl (pc' := 6) rfl ?_
  exact mm_sub [2, 3, 4, 1, 0] rfl (s_X2_picture_L6  _ _ _ h)

def P_X2_find (u_wide : Int32) (u_high : Int32) (u_slackNow : Int32) (u_tenants : Int32) (u_letters : Int32) (u_readings : Int32) (u_kinds : Nat → Int32) (u_painOf : Nat → Int32) (u_payFor : Nat → Int32) (u_refused : Nat → Int32) (u_owned : Nat → Int64) (u_litIn : Nat → Int64) (u_shapes : Nat → Int32) (u_readAt : Nat → Int32) (u_meant : Nat → Int32) (u_readSo : Nat → Int32) (w_length : Int32) (w_bits : Int32) (w_letters : Nat → Int32) (r : Int32 × (Nat → Int64) × Int32 × Int32 × Int32 × Int32 × (Nat → Int32)) : Option Value → mm_W → Prop := fun rv w => rv = none ∧ w = (W_X2_X5_X6 r.1 r.2.1 r.2.2.1 r.2.2.2.1 r.2.2.2.2.1 r.2.2.2.2.2.1 r.2.2.2.2.2.2 u_wide u_high u_slackNow u_tenants u_letters u_readings u_kinds u_painOf u_payFor u_refused u_owned u_litIn u_shapes u_readAt u_meant u_readSo w_length w_bits w_letters)
def X2_find_J109 (fu : Nat) (rec37 : Int32 → (Nat → Int64) → Int32 → (Nat → Int32) → Int32 → Option (Int32 × (Nat → Int64) × Int32 × Int32 × Int32 × Int32 × (Nat → Int32))) (q_known : Int32) (q_lights : Nat → Int64) (q_places_y : Int32) (q_places_boxes : Int32) (q_places_lastColumn : Int32) (q_places_lastTop : Int32) (q_places_columns : Nat → Int32) (u_wide : Int32) (u_high : Int32) (u_tenants : Int32) (u_kinds : Nat → Int32) (u_refused : Nat → Int32) (u_owned : Nat → Int64) (u_litIn : Nat → Int64) (u_shapes : Nat → Int32) (w_length : Int32) (w_bits : Int32) (w_letters : Nat → Int32) (v3 : Int32) (v4 : Int64) (v6 : Int32)  : Option (Int32 × (Nat → Int64) × Int32 × Int32 × Int32 × Int32 × (Nat → Int32)) := (f_X3_goOn fu q_places_y q_places_boxes q_places_lastColumn q_places_lastTop q_places_columns).bind fun t113 => if t113.1 = 0 then (some (q_known, q_lights, t113.2.1, q_places_boxes, q_places_lastColumn, q_places_lastTop, t113.2.2)) else (rec37 q_known q_lights t113.2.1 t113.2.2 (v6 + (1 : Int32)))
set_option maxHeartbeats 4000000 in
set_option maxRecDepth 100000 in
theorem s_X2_find_J109 {fu : Nat} {q_known : Int32} {q_lights : Nat → Int64} {q_places_y : Int32} {q_places_boxes : Int32} {q_places_lastColumn : Int32} {q_places_lastTop : Int32} {q_places_columns : Nat → Int32} {u_wide : Int32} {u_high : Int32} {u_slackNow : Int32} {u_tenants : Int32} {u_letters : Int32} {u_readings : Int32} {u_kinds : Nat → Int32} {u_painOf : Nat → Int32} {u_payFor : Nat → Int32} {u_refused : Nat → Int32} {u_owned : Nat → Int64} {u_litIn : Nat → Int64} {u_shapes : Nat → Int32} {u_readAt : Nat → Int32} {u_meant : Nat → Int32} {u_readSo : Nat → Int32} {w_length : Int32} {w_bits : Int32} {w_letters : Nat → Int32} {r : Int32 × (Nat → Int64) × Int32 × Int32 × Int32 × Int32 × (Nat → Int32)} {rec37 : Int32 → (Nat → Int64) → Int32 → (Nat → Int32) → Int32 → Option (Int32 × (Nat → Int64) × Int32 × Int32 × Int32 × Int32 × (Nat → Int32))} {v3 : Int32} {v4 : Int64} {v6 : Int32} (hr37 : ∀ (z_q_known : Int32) (z_q_lights : Nat → Int64) (z_q_places_y : Int32) (z_q_places_columns : Nat → Int32) (y6 : Int32), rec37 z_q_known z_q_lights z_q_places_y z_q_places_columns y6 = some r → mm_Wp mX2_find (mm_R (P_X2_find u_wide u_high u_slackNow u_tenants u_letters u_readings u_kinds u_painOf u_payFor u_refused u_owned u_litIn u_shapes u_readAt u_meant u_readSo w_length w_bits w_letters r)) 0 0 37 [(0, .ref 0), (1, .ref 4), (2, .ref 15), (3, .int v3), (4, .long v4), (6, .int y6)] [] (W_X2_X5_X6 z_q_known z_q_lights z_q_places_y q_places_boxes q_places_lastColumn q_places_lastTop z_q_places_columns u_wide u_high u_slackNow u_tenants u_letters u_readings u_kinds u_painOf u_payFor u_refused u_owned u_litIn u_shapes u_readAt u_meant u_readSo w_length w_bits w_letters)) (h : X2_find_J109 fu rec37 q_known q_lights q_places_y q_places_boxes q_places_lastColumn q_places_lastTop q_places_columns u_wide u_high u_tenants u_kinds u_refused u_owned u_litIn u_shapes w_length w_bits w_letters v3 v4 v6 = some r) : mm_Wp mX2_find (mm_R (P_X2_find u_wide u_high u_slackNow u_tenants u_letters u_readings u_kinds u_painOf u_payFor u_refused u_owned u_litIn u_shapes u_readAt u_meant u_readSo w_length w_bits w_letters r)) 0 0 109 [(0, .ref 0), (1, .ref 4), (2, .ref 15), (3, .int v3), (4, .long v4), (6, .int v6)] [] (W_X2_X5_X6 q_known q_lights q_places_y q_places_boxes q_places_lastColumn q_places_lastTop q_places_columns u_wide u_high u_slackNow u_tenants u_letters u_readings u_kinds u_painOf u_payFor u_refused u_owned u_litIn u_shapes u_readAt u_meant u_readSo w_length w_bits w_letters) := by
  rw [X2_find_J109] at h
  refine mm_aload_n 0 dX2_find_109 rfl rfl (pc' := 110) rfl ?_
  refine mm_getf fG_X2_22 dX2_find_110 rfl rfl (pc' := 113) rfl ?_
  obtain ⟨t113, h113, h⟩ := mm_bd h
  refine mm_callV (As := []) (rest := []) (av := [.ref 0]) (wc := (W_X3 q_places_y q_places_boxes q_places_lastColumn q_places_lastTop q_places_columns)) (is := [2, 3]) cV_X2_53 (ok_X3_goOn h113) ⟨rfl, rfl, Nat.le_of_ble_eq_true rfl, Nat.le_of_ble_eq_true rfl⟩ dX2_find_113 rfl rfl rfl rfl rfl ⟨rfl, by decide, by decide⟩ (by rintro _ _ ⟨-, rfl⟩; rfl) (Nat.le_of_ble_eq_true rfl) ⟨Nat.le_of_ble_eq_true rfl, Nat.le_of_ble_eq_true rfl⟩ (pc' := 116) rfl ?_
  rintro rv w ⟨rfl, rfl⟩
  show mm_Wp _ _ _ _ 116 [(0, .ref 0), (1, .ref 4), (2, .ref 15), (3, .int v3), (4, .long v4), (6, .int v6)] [.int t113.1] (W_X2_X5_X6 q_known q_lights t113.2.1 q_places_boxes q_places_lastColumn q_places_lastTop t113.2.2 u_wide u_high u_slackNow u_tenants u_letters u_readings u_kinds u_painOf u_payFor u_refused u_owned u_litIn u_shapes u_readAt u_meant u_readSo w_length w_bits w_letters)
  clear h113
  refine mm_if_ne (tgt := 122) dX2_find_116 (by decide) (pc' := 119) rfl (fun c => ?_) (fun c => ?_)
  · replace h := mm_if h c
    clear c
    refine mm_iinc 5 dX2_find_122 rfl ki_1 (by decide) (l' := [(6, .int (v6 + (1 : Int32))), (0, .ref 0), (1, .ref 4), (2, .ref 15), (3, .int v3), (4, .long v4)]) rfl (pc' := 125) rfl ?_
    refine mm_goto (tgt := 37) dX2_find_125 (by decide) ?_
    exact mm_sub [1, 2, 3, 4, 5, 0] rfl (hr37 _ _ _ _ _ h)
  · replace h := mm_it h c
    clear c
    refine mm_goto (tgt := 128) dX2_find_119 (by decide) ?_
    have h9 := Option.some.inj h
    subst h9
    exact mm_vret rfl dX2_find_128 ⟨rfl, rfl⟩
def X2_find_L37 (fu : Nat)  (q_places_boxes : Int32) (q_places_lastColumn : Int32) (q_places_lastTop : Int32) (u_wide : Int32) (u_high : Int32) (u_tenants : Int32) (u_kinds : Nat → Int32) (u_refused : Nat → Int32) (u_owned : Nat → Int64) (u_litIn : Nat → Int64) (u_shapes : Nat → Int32) (w_length : Int32) (w_bits : Int32) (w_letters : Nat → Int32) (v3 : Int32) (v4 : Int64) : Nat → Int32 → (Nat → Int64) → Int32 → (Nat → Int32) → Int32 → Option (Int32 × (Nat → Int64) × Int32 × Int32 × Int32 × Int32 × (Nat → Int32))
  | 0, _, _, _, _, _ => none
  | n + 1, q_known, q_lights, q_places_y, q_places_columns, v6 => if (42 : Int32) ≤ v6 then (some (q_known, q_lights, q_places_y, q_places_boxes, q_places_lastColumn, q_places_lastTop, q_places_columns)) else (mm_rd u_litIn 4 v3 fun x52 => (f_X2_picture fu q_places_y q_places_columns u_shapes w_length w_letters x52).bind fun t53 => mm_rd u_litIn 4 v3 fun x65 => if (lg_cmp ((t53 ^^^ x65) &&& (v4 ^^^ (-1 : Int64))) (0 : Int64)) = 0 then (if (42 : Int32) ≤ q_known then (X2_find_J109 fu (X2_find_L37 fu q_places_boxes q_places_lastColumn q_places_lastTop u_wide u_high u_tenants u_kinds u_refused u_owned u_litIn u_shapes w_length w_bits w_letters v3 v4 n) q_known q_lights q_places_y q_places_boxes q_places_lastColumn q_places_lastTop q_places_columns u_wide u_high u_tenants u_kinds u_refused u_owned u_litIn u_shapes w_length w_bits w_letters v3 v4 v6) else (mm_ck 42 q_known (X2_find_J109 fu (X2_find_L37 fu q_places_boxes q_places_lastColumn q_places_lastTop u_wide u_high u_tenants u_kinds u_refused u_owned u_litIn u_shapes w_length w_bits w_letters v3 v4 n) (q_known + (1 : Int32)) (vp_updL q_lights q_known.toNatClampNeg t53) q_places_y q_places_boxes q_places_lastColumn q_places_lastTop q_places_columns u_wide u_high u_tenants u_kinds u_refused u_owned u_litIn u_shapes w_length w_bits w_letters v3 v4 v6))) else (X2_find_J109 fu (X2_find_L37 fu q_places_boxes q_places_lastColumn q_places_lastTop u_wide u_high u_tenants u_kinds u_refused u_owned u_litIn u_shapes w_length w_bits w_letters v3 v4 n) q_known q_lights q_places_y q_places_boxes q_places_lastColumn q_places_lastTop q_places_columns u_wide u_high u_tenants u_kinds u_refused u_owned u_litIn u_shapes w_length w_bits w_letters v3 v4 v6))
set_option maxHeartbeats 4000000 in
set_option maxRecDepth 100000 in
theorem s_X2_find_L37 {fu : Nat} {q_places_boxes : Int32} {q_places_lastColumn : Int32} {q_places_lastTop : Int32} {u_wide : Int32} {u_high : Int32} {u_slackNow : Int32} {u_tenants : Int32} {u_letters : Int32} {u_readings : Int32} {u_kinds : Nat → Int32} {u_painOf : Nat → Int32} {u_payFor : Nat → Int32} {u_refused : Nat → Int32} {u_owned : Nat → Int64} {u_litIn : Nat → Int64} {u_shapes : Nat → Int32} {u_readAt : Nat → Int32} {u_meant : Nat → Int32} {u_readSo : Nat → Int32} {w_length : Int32} {w_bits : Int32} {w_letters : Nat → Int32} {r : Int32 × (Nat → Int64) × Int32 × Int32 × Int32 × Int32 × (Nat → Int32)} {v3 : Int32} {v4 : Int64} : ∀ (n : Nat) (q_known : Int32) (q_lights : Nat → Int64) (q_places_y : Int32) (q_places_columns : Nat → Int32) (v6 : Int32), X2_find_L37 fu q_places_boxes q_places_lastColumn q_places_lastTop u_wide u_high u_tenants u_kinds u_refused u_owned u_litIn u_shapes w_length w_bits w_letters v3 v4 n q_known q_lights q_places_y q_places_columns v6 = some r → mm_Wp mX2_find (mm_R (P_X2_find u_wide u_high u_slackNow u_tenants u_letters u_readings u_kinds u_painOf u_payFor u_refused u_owned u_litIn u_shapes u_readAt u_meant u_readSo w_length w_bits w_letters r)) 0 0 37 [(0, .ref 0), (1, .ref 4), (2, .ref 15), (3, .int v3), (4, .long v4), (6, .int v6)] [] (W_X2_X5_X6 q_known q_lights q_places_y q_places_boxes q_places_lastColumn q_places_lastTop q_places_columns u_wide u_high u_slackNow u_tenants u_letters u_readings u_kinds u_painOf u_payFor u_refused u_owned u_litIn u_shapes u_readAt u_meant u_readSo w_length w_bits w_letters) := by
  intro n
  induction n with
  | zero =>
    intro q_known q_lights q_places_y q_places_columns v6 h
    rw [X2_find_L37] at h
    cases h
  | succ n hr37 =>
    intro q_known q_lights q_places_y q_places_columns v6 h
    rw [X2_find_L37] at h
    refine mm_iload 5 dX2_find_37 rfl (pc' := 39) rfl ?_
    refine mm_bipush dX2_find_39 kb_42 (pc' := 41) rfl ?_
    refine mm_icmp_ge (tgt := 128) dX2_find_41 (by decide) (pc' := 44) rfl (fun c => ?_) (fun c => ?_)
    · replace h := mm_it h c
      clear c
      have h9 := Option.some.inj h
      subst h9
      exact mm_vret rfl dX2_find_128 ⟨rfl, rfl⟩
    · replace h := mm_if h c
      clear c
      refine mm_aload_n 0 dX2_find_44 rfl rfl (pc' := 45) rfl ?_
      refine mm_aload_n 1 dX2_find_45 rfl rfl (pc' := 46) rfl ?_
      refine mm_aload_n 2 dX2_find_46 rfl rfl (pc' := 47) rfl ?_
      refine mm_aload_n 1 dX2_find_47 rfl rfl (pc' := 48) rfl ?_
      refine mm_getf fG_X2_44 dX2_find_48 rfl rfl (pc' := 51) rfl ?_
      refine mm_iload_n 3 dX2_find_51 rfl rfl (pc' := 52) rfl ?_
      obtain ⟨x52, c52, e52, h⟩ := mm_rd_of h
      refine mm_lald dX2_find_52 rfl c52 e52 (pc' := 53) rfl ?_
      clear c52 e52
      obtain ⟨t53, h53, h⟩ := mm_bd h
      refine mm_call0 (As := [.ref 4, .ref 15, .long x52]) (rest := []) cV_X2_47 (ok_X2_picture h53) ⟨rfl, rfl, Nat.le_of_ble_eq_true rfl, Nat.le_of_ble_eq_true rfl⟩ dX2_find_53 rfl rfl rfl rfl (by rintro _ _ ⟨-, rfl⟩; rfl) (Nat.le_of_ble_eq_true rfl) ⟨Nat.le_of_ble_eq_true rfl, Nat.le_of_ble_eq_true rfl⟩ (pc' := 56) rfl ?_
      rintro rv w ⟨rfl, rfl⟩
      show mm_Wp _ _ _ _ 56 [(0, .ref 0), (1, .ref 4), (2, .ref 15), (3, .int v3), (4, .long v4), (6, .int v6)] [.long t53] (W_X2_X5_X6 q_known q_lights q_places_y q_places_boxes q_places_lastColumn q_places_lastTop q_places_columns u_wide u_high u_slackNow u_tenants u_letters u_readings u_kinds u_painOf u_payFor u_refused u_owned u_litIn u_shapes u_readAt u_meant u_readSo w_length w_bits w_letters)
      clear h53
      refine mm_lstore dX2_find_56 (by decide) (l' := [(7, .long t53), (0, .ref 0), (1, .ref 4), (2, .ref 15), (3, .int v3), (4, .long v4), (6, .int v6)]) rfl (pc' := 58) rfl ?_
      refine mm_lload 0 dX2_find_58 rfl (pc' := 60) rfl ?_
      refine mm_aload_n 2 dX2_find_60 rfl rfl (pc' := 61) rfl ?_
      refine mm_getf fG_X2_44 dX2_find_61 rfl rfl (pc' := 64) rfl ?_
      refine mm_iload_n 4 dX2_find_64 rfl rfl (pc' := 65) rfl ?_
      obtain ⟨x65, c65, e65, h⟩ := mm_rd_of h
      refine mm_lald dX2_find_65 rfl c65 e65 (pc' := 66) rfl ?_
      clear c65 e65
      refine mm_lxor dX2_find_66 (pc' := 67) rfl ?_
      refine mm_lload 5 dX2_find_67 rfl (pc' := 69) rfl ?_
      refine mm_ldc2 kC_X2_51 dX2_find_69 (pc' := 72) rfl ?_
      refine mm_lxor dX2_find_72 (pc' := 73) rfl ?_
      refine mm_land dX2_find_73 (pc' := 74) rfl ?_
      refine mm_lconst dX2_find_74 (by decide : _ = (0 : Int64)) (pc' := 75) rfl ?_
      refine mm_lcmp dX2_find_75 (pc' := 76) rfl ?_
      refine mm_if_ne (tgt := 109) dX2_find_76 (by decide) (pc' := 79) rfl (fun c => ?_) (fun c => ?_)
      · replace h := mm_if h c
        clear c
        exact mm_sub [1, 2, 3, 4, 5, 6] rfl (s_X2_find_J109 (hr37 := hr37) h)
      · replace h := mm_it h c
        clear c
        refine mm_aload_n 1 dX2_find_79 rfl rfl (pc' := 80) rfl ?_
        refine mm_getf fG_X2_15 dX2_find_80 rfl rfl (pc' := 83) rfl ?_
        refine mm_bipush dX2_find_83 kb_42 (pc' := 85) rfl ?_
        refine mm_icmp_ge (tgt := 109) dX2_find_85 (by decide) (pc' := 88) rfl (fun c => ?_) (fun c => ?_)
        · replace h := mm_it h c
          clear c
          exact mm_sub [1, 2, 3, 4, 5, 6] rfl (s_X2_find_J109 (hr37 := hr37) h)
        · replace h := mm_if h c
          clear c
          refine mm_aload_n 1 dX2_find_88 rfl rfl (pc' := 89) rfl ?_
          refine mm_getf fG_X2_9 dX2_find_89 rfl rfl (pc' := 92) rfl ?_
          refine mm_aload_n 1 dX2_find_92 rfl rfl (pc' := 93) rfl ?_
          refine mm_getf fG_X2_15 dX2_find_93 rfl rfl (pc' := 96) rfl ?_
          refine mm_lload 0 dX2_find_96 rfl (pc' := 98) rfl ?_
          obtain ⟨c98, h⟩ := mm_ck_of h
          refine mm_last dX2_find_98 rfl c98 rfl (ws' := (W_X2_X5_X6 q_known (vp_updL q_lights q_known.toNatClampNeg t53) q_places_y q_places_boxes q_places_lastColumn q_places_lastTop q_places_columns u_wide u_high u_slackNow u_tenants u_letters u_readings u_kinds u_painOf u_payFor u_refused u_owned u_litIn u_shapes u_readAt u_meant u_readSo w_length w_bits w_letters)) rfl (pc' := 99) rfl ?_
          clear c98
          refine mm_aload_n 1 dX2_find_99 rfl rfl (pc' := 100) rfl ?_
          refine mm_dup dX2_find_100 rfl (pc' := 101) rfl ?_
          refine mm_getf fG_X2_15 dX2_find_101 rfl rfl (pc' := 104) rfl ?_
          refine mm_iconst dX2_find_104 ki_1 (pc' := 105) rfl ?_
          refine mm_iadd dX2_find_105 (pc' := 106) rfl ?_
          refine mm_putf fP_X2_15 dX2_find_106 rfl (Nat.le_of_ble_eq_true rfl) (fun _ => rfl) (fun _ => rfl) (ws' := (W_X2_X5_X6 (q_known + (1 : Int32)) (vp_updL q_lights q_known.toNatClampNeg t53) q_places_y q_places_boxes q_places_lastColumn q_places_lastTop q_places_columns u_wide u_high u_slackNow u_tenants u_letters u_readings u_kinds u_painOf u_payFor u_refused u_owned u_litIn u_shapes u_readAt u_meant u_readSo w_length w_bits w_letters)) rfl (pc' := 109) rfl ?_
          exact mm_sub [1, 2, 3, 4, 5, 6] rfl (s_X2_find_J109 (hr37 := hr37) h)
def f_X2_find (fu : Nat) (q_known : Int32) (q_lights : Nat → Int64) (q_places_y : Int32) (q_places_boxes : Int32) (q_places_lastColumn : Int32) (q_places_lastTop : Int32) (q_places_columns : Nat → Int32) (u_wide : Int32) (u_high : Int32) (u_tenants : Int32) (u_kinds : Nat → Int32) (u_refused : Nat → Int32) (u_owned : Nat → Int64) (u_litIn : Nat → Int64) (u_shapes : Nat → Int32) (w_length : Int32) (w_bits : Int32) (w_letters : Nat → Int32) (v3 : Int32) : Option (Int32 × (Nat → Int64) × Int32 × Int32 × Int32 × Int32 × (Nat → Int32)) := (f_X3_begin fu q_places_y q_places_boxes q_places_lastColumn q_places_lastTop q_places_columns u_wide u_high w_length).bind fun t14 => if t14.1 = 0 then (some ((0 : Int32), q_lights, t14.2.1, t14.2.2.1, t14.2.2.2.1, t14.2.2.2.2.1, t14.2.2.2.2.2)) else ((f_X5_changeable fu u_tenants u_kinds u_refused u_owned u_litIn v3 w_bits (63 : Int32)).bind fun t29 => X2_find_L37 fu t14.2.2.1 t14.2.2.2.1 t14.2.2.2.2.1 u_wide u_high u_tenants u_kinds u_refused u_owned u_litIn u_shapes w_length w_bits w_letters v3 t29 fu (0 : Int32) q_lights t14.2.1 t14.2.2.2.2.2 (0 : Int32))
set_option maxHeartbeats 4000000 in
set_option maxRecDepth 100000 in
theorem ok_X2_find {fu : Nat} {q_known : Int32} {q_lights : Nat → Int64} {q_places_y : Int32} {q_places_boxes : Int32} {q_places_lastColumn : Int32} {q_places_lastTop : Int32} {q_places_columns : Nat → Int32} {u_wide : Int32} {u_high : Int32} {u_slackNow : Int32} {u_tenants : Int32} {u_letters : Int32} {u_readings : Int32} {u_kinds : Nat → Int32} {u_painOf : Nat → Int32} {u_payFor : Nat → Int32} {u_refused : Nat → Int32} {u_owned : Nat → Int64} {u_litIn : Nat → Int64} {u_shapes : Nat → Int32} {u_readAt : Nat → Int32} {u_meant : Nat → Int32} {u_readSo : Nat → Int32} {w_length : Int32} {w_bits : Int32} {w_letters : Nat → Int32} {r : Int32 × (Nat → Int64) × Int32 × Int32 × Int32 × Int32 × (Nat → Int32)} {v3 : Int32} (h : f_X2_find fu q_known q_lights q_places_y q_places_boxes q_places_lastColumn q_places_lastTop q_places_columns u_wide u_high u_tenants u_kinds u_refused u_owned u_litIn u_shapes w_length w_bits w_letters v3 = some r) : mm_Ok mX2_find [.ref 0, .ref 4, .ref 15, .int v3] (W_X2_X5_X6 q_known q_lights q_places_y q_places_boxes q_places_lastColumn q_places_lastTop q_places_columns u_wide u_high u_slackNow u_tenants u_letters u_readings u_kinds u_painOf u_payFor u_refused u_owned u_litIn u_shapes u_readAt u_meant u_readSo w_length w_bits w_letters) (P_X2_find u_wide u_high u_slackNow u_tenants u_letters u_readings u_kinds u_painOf u_payFor u_refused u_owned u_litIn u_shapes u_readAt u_meant u_readSo w_length w_bits w_letters r) := by
  rw [f_X2_find] at h
  refine mm_Ok.of pn_X2 (l := [(0, .ref 0), (1, .ref 4), (2, .ref 15), (3, .int v3)]) rfl (Nat.le_of_ble_eq_true rfl) ?_
  refine mm_aload_n 0 dX2_find_0 rfl rfl (pc' := 1) rfl ?_
  refine mm_iconst dX2_find_1 ki_0 (pc' := 2) rfl ?_
  refine mm_putf fP_X2_15 dX2_find_2 rfl (Nat.le_of_ble_eq_true rfl) (fun _ => rfl) (fun _ => rfl) (ws' := (W_X2_X5_X6 (0 : Int32) q_lights q_places_y q_places_boxes q_places_lastColumn q_places_lastTop q_places_columns u_wide u_high u_slackNow u_tenants u_letters u_readings u_kinds u_painOf u_payFor u_refused u_owned u_litIn u_shapes u_readAt u_meant u_readSo w_length w_bits w_letters)) rfl (pc' := 5) rfl ?_
  refine mm_aload_n 0 dX2_find_5 rfl rfl (pc' := 6) rfl ?_
  refine mm_getf fG_X2_22 dX2_find_6 rfl rfl (pc' := 9) rfl ?_
  refine mm_aload_n 2 dX2_find_9 rfl rfl (pc' := 10) rfl ?_
  refine mm_getf fG_X2_26 dX2_find_10 rfl rfl (pc' := 13) rfl ?_
  refine mm_aload_n 1 dX2_find_13 rfl rfl (pc' := 14) rfl ?_
  obtain ⟨t14, h14, h⟩ := mm_bd h
  refine mm_callV (As := [.int w_length, .ref 4]) (rest := []) (av := [.ref 0, .int w_length, .ref 2]) (wc := (W_X3_X5 q_places_y q_places_boxes q_places_lastColumn q_places_lastTop q_places_columns u_wide u_high u_slackNow u_tenants u_letters u_readings u_kinds u_painOf u_payFor u_refused u_owned u_litIn u_shapes u_readAt u_meant u_readSo)) (is := [2, 3, 4, 5, 6, 7, 8, 9, 10, 11, 12, 13, 14]) cV_X2_31 (ok_X3_begin h14) ⟨rfl, rfl, Nat.le_of_ble_eq_true rfl, Nat.le_of_ble_eq_true rfl⟩ dX2_find_14 rfl rfl rfl rfl rfl ⟨rfl, by decide, by decide⟩ (by rintro _ _ ⟨-, rfl⟩; rfl) (Nat.le_of_ble_eq_true rfl) ⟨Nat.le_of_ble_eq_true rfl, Nat.le_of_ble_eq_true rfl⟩ (pc' := 17) rfl ?_
  rintro rv w ⟨rfl, rfl⟩
  show mm_Wp _ _ _ _ 17 [(0, .ref 0), (1, .ref 4), (2, .ref 15), (3, .int v3)] [.int t14.1] (W_X2_X5_X6 (0 : Int32) q_lights t14.2.1 t14.2.2.1 t14.2.2.2.1 t14.2.2.2.2.1 t14.2.2.2.2.2 u_wide u_high u_slackNow u_tenants u_letters u_readings u_kinds u_painOf u_payFor u_refused u_owned u_litIn u_shapes u_readAt u_meant u_readSo w_length w_bits w_letters)
  clear h14
  refine mm_if_ne (tgt := 21) dX2_find_17 (by decide) (pc' := 20) rfl (fun c => ?_) (fun c => ?_)
  · replace h := mm_if h c
    clear c
    refine mm_aload_n 1 dX2_find_21 rfl rfl (pc' := 22) rfl ?_
    refine mm_iload_n 3 dX2_find_22 rfl rfl (pc' := 23) rfl ?_
    refine mm_aload_n 2 dX2_find_23 rfl rfl (pc' := 24) rfl ?_
    refine mm_getf fG_X2_35 dX2_find_24 rfl rfl (pc' := 27) rfl ?_
    refine mm_bipush dX2_find_27 kb_63 (pc' := 29) rfl ?_
    obtain ⟨t29, h29, h⟩ := mm_bd h
    refine mm_callV (As := [.int v3, .int w_bits, .int (63 : Int32)]) (rest := []) (av := [.ref 0, .int v3, .int w_bits, .int (63 : Int32)]) (wc := (W_X5 u_wide u_high u_slackNow u_tenants u_letters u_readings u_kinds u_painOf u_payFor u_refused u_owned u_litIn u_shapes u_readAt u_meant u_readSo)) (is := [4, 5, 6, 7, 8, 9, 10, 11, 12, 13, 14]) cV_X2_38 (ok_X5_changeable h29) ⟨rfl, rfl, Nat.le_of_ble_eq_true rfl, Nat.le_of_ble_eq_true rfl⟩ dX2_find_29 rfl rfl rfl rfl rfl ⟨rfl, by decide, by decide⟩ (by rintro _ _ ⟨-, rfl⟩; rfl) (Nat.le_of_ble_eq_true rfl) ⟨Nat.le_of_ble_eq_true rfl, Nat.le_of_ble_eq_true rfl⟩ (pc' := 32) rfl ?_
    rintro rv w ⟨rfl, rfl⟩
    show mm_Wp _ _ _ _ 32 [(0, .ref 0), (1, .ref 4), (2, .ref 15), (3, .int v3)] [.long t29] (W_X2_X5_X6 (0 : Int32) q_lights t14.2.1 t14.2.2.1 t14.2.2.2.1 t14.2.2.2.2.1 t14.2.2.2.2.2 u_wide u_high u_slackNow u_tenants u_letters u_readings u_kinds u_painOf u_payFor u_refused u_owned u_litIn u_shapes u_readAt u_meant u_readSo w_length w_bits w_letters)
    clear h29
    refine mm_lstore dX2_find_32 (by decide) (l' := [(4, .long t29), (0, .ref 0), (1, .ref 4), (2, .ref 15), (3, .int v3)]) rfl (pc' := 34) rfl ?_
    refine mm_iconst dX2_find_34 ki_0 (pc' := 35) rfl ?_
    refine mm_istore dX2_find_35 (by decide) (l' := [(6, .int (0 : Int32)), (4, .long t29), (0, .ref 0), (1, .ref 4), (2, .ref 15), (3, .int v3)]) rfl (pc' := 37) rfl ?_
    exact mm_sub [2, 3, 4, 5, 1, 0] rfl (s_X2_find_L37  _ _ _ _ _ _ h)
  · replace h := mm_it h c
    clear c
    have h9 := Option.some.inj h
    subst h9
    exact mm_vret rfl dX2_find_20 ⟨rfl, rfl⟩

def P_X2_fewestUnlike (q_known : Int32) (q_lights : Nat → Int64) (q_places_y : Int32) (q_places_boxes : Int32) (q_places_lastColumn : Int32) (q_places_lastTop : Int32) (q_places_columns : Nat → Int32) (u_known : Int32) (u_lights : Nat → Int64) (u_places_y : Int32) (u_places_boxes : Int32) (u_places_lastColumn : Int32) (u_places_lastTop : Int32) (u_places_columns : Nat → Int32) (r : Int32) : Option Value → mm_W → Prop := fun rv w => rv = some (.int r) ∧ w = (W_X2_X2 q_known q_lights q_places_y q_places_boxes q_places_lastColumn q_places_lastTop q_places_columns u_known u_lights u_places_y u_places_boxes u_places_lastColumn u_places_lastTop u_places_columns)
def X2_fewestUnlike_J57 (fu : Nat) (rec4 : Int32 → Int32 → Option (Int32)) (rec15 : Int32 → Int32 → Option (Int32)) (q_known : Int32) (q_lights : Nat → Int64) (u_known : Int32) (u_lights : Nat → Int64) (v2 : Int32) (v3 : Int32) (v4 : Int32)  : Option (Int32) := rec15 v2 (v4 + (1 : Int32))
set_option maxHeartbeats 4000000 in
set_option maxRecDepth 100000 in
theorem s_X2_fewestUnlike_J57 {fu : Nat} {q_known : Int32} {q_lights : Nat → Int64} {q_places_y : Int32} {q_places_boxes : Int32} {q_places_lastColumn : Int32} {q_places_lastTop : Int32} {q_places_columns : Nat → Int32} {u_known : Int32} {u_lights : Nat → Int64} {u_places_y : Int32} {u_places_boxes : Int32} {u_places_lastColumn : Int32} {u_places_lastTop : Int32} {u_places_columns : Nat → Int32} {r : Int32} {rec4 : Int32 → Int32 → Option (Int32)} {rec15 : Int32 → Int32 → Option (Int32)} {v2 : Int32} {v3 : Int32} {v4 : Int32} (hr4 : ∀ (y2 : Int32) (y3 : Int32), rec4 y2 y3 = some r → mm_Wp mX2_fewestUnlike (mm_R (P_X2_fewestUnlike q_known q_lights q_places_y q_places_boxes q_places_lastColumn q_places_lastTop q_places_columns u_known u_lights u_places_y u_places_boxes u_places_lastColumn u_places_lastTop u_places_columns r)) 0 0 4 [(0, .ref 0), (1, .ref 4), (2, .int y2), (3, .int y3)] [] (W_X2_X2 q_known q_lights q_places_y q_places_boxes q_places_lastColumn q_places_lastTop q_places_columns u_known u_lights u_places_y u_places_boxes u_places_lastColumn u_places_lastTop u_places_columns)) (hr15 : ∀ (y2 : Int32) (y4 : Int32), rec15 y2 y4 = some r → mm_Wp mX2_fewestUnlike (mm_R (P_X2_fewestUnlike q_known q_lights q_places_y q_places_boxes q_places_lastColumn q_places_lastTop q_places_columns u_known u_lights u_places_y u_places_boxes u_places_lastColumn u_places_lastTop u_places_columns r)) 0 0 15 [(0, .ref 0), (1, .ref 4), (2, .int y2), (3, .int v3), (4, .int y4)] [] (W_X2_X2 q_known q_lights q_places_y q_places_boxes q_places_lastColumn q_places_lastTop q_places_columns u_known u_lights u_places_y u_places_boxes u_places_lastColumn u_places_lastTop u_places_columns)) (h : X2_fewestUnlike_J57 fu rec4 rec15 q_known q_lights u_known u_lights v2 v3 v4 = some r) : mm_Wp mX2_fewestUnlike (mm_R (P_X2_fewestUnlike q_known q_lights q_places_y q_places_boxes q_places_lastColumn q_places_lastTop q_places_columns u_known u_lights u_places_y u_places_boxes u_places_lastColumn u_places_lastTop u_places_columns r)) 0 0 57 [(0, .ref 0), (1, .ref 4), (2, .int v2), (3, .int v3), (4, .int v4)] [] (W_X2_X2 q_known q_lights q_places_y q_places_boxes q_places_lastColumn q_places_lastTop q_places_columns u_known u_lights u_places_y u_places_boxes u_places_lastColumn u_places_lastTop u_places_columns) := by
  rw [X2_fewestUnlike_J57] at h
  refine mm_iinc 4 dX2_fewestUnlike_57 rfl ki_1 (by decide) (l' := [(4, .int (v4 + (1 : Int32))), (0, .ref 0), (1, .ref 4), (2, .int v2), (3, .int v3)]) rfl (pc' := 60) rfl ?_
  refine mm_goto (tgt := 15) dX2_fewestUnlike_60 (by decide) ?_
  exact mm_sub [1, 2, 3, 4, 0] rfl (hr15 _ _ h)
def X2_fewestUnlike_J54 (fu : Nat) (rec4 : Int32 → Int32 → Option (Int32)) (rec15 : Int32 → Int32 → Option (Int32)) (q_known : Int32) (q_lights : Nat → Int64) (u_known : Int32) (u_lights : Nat → Int64) (v3 : Int32) (v4 : Int32) (v5 : Int32)  : Option (Int32) := X2_fewestUnlike_J57 fu rec4 rec15 q_known q_lights u_known u_lights v5 v3 v4
set_option maxHeartbeats 4000000 in
set_option maxRecDepth 100000 in
theorem s_X2_fewestUnlike_J54 {fu : Nat} {q_known : Int32} {q_lights : Nat → Int64} {q_places_y : Int32} {q_places_boxes : Int32} {q_places_lastColumn : Int32} {q_places_lastTop : Int32} {q_places_columns : Nat → Int32} {u_known : Int32} {u_lights : Nat → Int64} {u_places_y : Int32} {u_places_boxes : Int32} {u_places_lastColumn : Int32} {u_places_lastTop : Int32} {u_places_columns : Nat → Int32} {r : Int32} {rec4 : Int32 → Int32 → Option (Int32)} {rec15 : Int32 → Int32 → Option (Int32)} {v3 : Int32} {v4 : Int32} {v5 : Int32} (hr4 : ∀ (y2 : Int32) (y3 : Int32), rec4 y2 y3 = some r → mm_Wp mX2_fewestUnlike (mm_R (P_X2_fewestUnlike q_known q_lights q_places_y q_places_boxes q_places_lastColumn q_places_lastTop q_places_columns u_known u_lights u_places_y u_places_boxes u_places_lastColumn u_places_lastTop u_places_columns r)) 0 0 4 [(0, .ref 0), (1, .ref 4), (2, .int y2), (3, .int y3)] [] (W_X2_X2 q_known q_lights q_places_y q_places_boxes q_places_lastColumn q_places_lastTop q_places_columns u_known u_lights u_places_y u_places_boxes u_places_lastColumn u_places_lastTop u_places_columns)) (hr15 : ∀ (y2 : Int32) (y4 : Int32), rec15 y2 y4 = some r → mm_Wp mX2_fewestUnlike (mm_R (P_X2_fewestUnlike q_known q_lights q_places_y q_places_boxes q_places_lastColumn q_places_lastTop q_places_columns u_known u_lights u_places_y u_places_boxes u_places_lastColumn u_places_lastTop u_places_columns r)) 0 0 15 [(0, .ref 0), (1, .ref 4), (2, .int y2), (3, .int v3), (4, .int y4)] [] (W_X2_X2 q_known q_lights q_places_y q_places_boxes q_places_lastColumn q_places_lastTop q_places_columns u_known u_lights u_places_y u_places_boxes u_places_lastColumn u_places_lastTop u_places_columns)) (h : X2_fewestUnlike_J54 fu rec4 rec15 q_known q_lights u_known u_lights v3 v4 v5 = some r) : mm_Wp mX2_fewestUnlike (mm_R (P_X2_fewestUnlike q_known q_lights q_places_y q_places_boxes q_places_lastColumn q_places_lastTop q_places_columns u_known u_lights u_places_y u_places_boxes u_places_lastColumn u_places_lastTop u_places_columns r)) 0 0 54 [(0, .ref 0), (1, .ref 4), (3, .int v3), (4, .int v4), (5, .int v5)] [] (W_X2_X2 q_known q_lights q_places_y q_places_boxes q_places_lastColumn q_places_lastTop q_places_columns u_known u_lights u_places_y u_places_boxes u_places_lastColumn u_places_lastTop u_places_columns) := by
  rw [X2_fewestUnlike_J54] at h
  refine mm_iload 4 dX2_fewestUnlike_54 rfl (pc' := 56) rfl ?_
  refine mm_istore_n dX2_fewestUnlike_56 rfl (by decide) (l' := [(2, .int v5), (0, .ref 0), (1, .ref 4), (3, .int v3), (4, .int v4), (5, .int v5)]) rfl (pc' := 57) rfl ?_
  exact mm_sub [1, 2, 0, 3, 4] rfl (s_X2_fewestUnlike_J57 (hr4 := hr4) (hr15 := hr15) h)
def X2_fewestUnlike_L15 (fu : Nat) (rec4 : Int32 → Int32 → Option (Int32)) (q_known : Int32) (q_lights : Nat → Int64) (u_known : Int32) (u_lights : Nat → Int64) (v3 : Int32) : Nat → Int32 → Int32 → Option (Int32)
  | 0, _, _ => none
  | n + 1, v2, v4 => if u_known ≤ v4 then (rec4 v2 (v3 + (1 : Int32))) else (mm_rd q_lights 42 v3 fun x29 => mm_rd u_lights 42 v4 fun x36 => (f_J13_bitCount_95d88 fu (x29 ^^^ x36)).bind fun t38 => if v2 = (-1 : Int32) then (X2_fewestUnlike_J54 fu rec4 (X2_fewestUnlike_L15 fu rec4 q_known q_lights u_known u_lights v3 n) q_known q_lights u_known u_lights v3 v4 t38) else (if v2 ≤ t38 then (X2_fewestUnlike_J57 fu rec4 (X2_fewestUnlike_L15 fu rec4 q_known q_lights u_known u_lights v3 n) q_known q_lights u_known u_lights v2 v3 v4) else (X2_fewestUnlike_J54 fu rec4 (X2_fewestUnlike_L15 fu rec4 q_known q_lights u_known u_lights v3 n) q_known q_lights u_known u_lights v3 v4 t38)))
set_option maxHeartbeats 4000000 in
set_option maxRecDepth 100000 in
theorem s_X2_fewestUnlike_L15 {fu : Nat} {q_known : Int32} {q_lights : Nat → Int64} {q_places_y : Int32} {q_places_boxes : Int32} {q_places_lastColumn : Int32} {q_places_lastTop : Int32} {q_places_columns : Nat → Int32} {u_known : Int32} {u_lights : Nat → Int64} {u_places_y : Int32} {u_places_boxes : Int32} {u_places_lastColumn : Int32} {u_places_lastTop : Int32} {u_places_columns : Nat → Int32} {r : Int32} {rec4 : Int32 → Int32 → Option (Int32)} {v3 : Int32} (hr4 : ∀ (y2 : Int32) (y3 : Int32), rec4 y2 y3 = some r → mm_Wp mX2_fewestUnlike (mm_R (P_X2_fewestUnlike q_known q_lights q_places_y q_places_boxes q_places_lastColumn q_places_lastTop q_places_columns u_known u_lights u_places_y u_places_boxes u_places_lastColumn u_places_lastTop u_places_columns r)) 0 0 4 [(0, .ref 0), (1, .ref 4), (2, .int y2), (3, .int y3)] [] (W_X2_X2 q_known q_lights q_places_y q_places_boxes q_places_lastColumn q_places_lastTop q_places_columns u_known u_lights u_places_y u_places_boxes u_places_lastColumn u_places_lastTop u_places_columns)) : ∀ (n : Nat) (v2 : Int32) (v4 : Int32), X2_fewestUnlike_L15 fu rec4 q_known q_lights u_known u_lights v3 n v2 v4 = some r → mm_Wp mX2_fewestUnlike (mm_R (P_X2_fewestUnlike q_known q_lights q_places_y q_places_boxes q_places_lastColumn q_places_lastTop q_places_columns u_known u_lights u_places_y u_places_boxes u_places_lastColumn u_places_lastTop u_places_columns r)) 0 0 15 [(0, .ref 0), (1, .ref 4), (2, .int v2), (3, .int v3), (4, .int v4)] [] (W_X2_X2 q_known q_lights q_places_y q_places_boxes q_places_lastColumn q_places_lastTop q_places_columns u_known u_lights u_places_y u_places_boxes u_places_lastColumn u_places_lastTop u_places_columns) := by
  intro n
  induction n with
  | zero =>
    intro v2 v4 h
    rw [X2_fewestUnlike_L15] at h
    cases h
  | succ n hr15 =>
    intro v2 v4 h
    rw [X2_fewestUnlike_L15] at h
    refine mm_iload 4 dX2_fewestUnlike_15 rfl (pc' := 17) rfl ?_
    refine mm_aload_n 1 dX2_fewestUnlike_17 rfl rfl (pc' := 18) rfl ?_
    refine mm_getf fG_X2_15 dX2_fewestUnlike_18 rfl rfl (pc' := 21) rfl ?_
    refine mm_icmp_ge (tgt := 63) dX2_fewestUnlike_21 (by decide) (pc' := 24) rfl (fun c => ?_) (fun c => ?_)
    · replace h := mm_it h c
      clear c
      refine mm_iinc 3 dX2_fewestUnlike_63 rfl ki_1 (by decide) (l' := [(3, .int (v3 + (1 : Int32))), (0, .ref 0), (1, .ref 4), (2, .int v2), (4, .int v4)]) rfl (pc' := 66) rfl ?_
      refine mm_goto (tgt := 4) dX2_fewestUnlike_66 (by decide) ?_
      exact mm_sub [1, 2, 3, 0] rfl (hr4 _ _ h)
    · replace h := mm_if h c
      clear c
      refine mm_aload_n 0 dX2_fewestUnlike_24 rfl rfl (pc' := 25) rfl ?_
      refine mm_getf fG_X2_9 dX2_fewestUnlike_25 rfl rfl (pc' := 28) rfl ?_
      refine mm_iload_n 3 dX2_fewestUnlike_28 rfl rfl (pc' := 29) rfl ?_
      obtain ⟨x29, c29, e29, h⟩ := mm_rd_of h
      refine mm_lald dX2_fewestUnlike_29 rfl c29 e29 (pc' := 30) rfl ?_
      clear c29 e29
      refine mm_aload_n 1 dX2_fewestUnlike_30 rfl rfl (pc' := 31) rfl ?_
      refine mm_getf fG_X2_9 dX2_fewestUnlike_31 rfl rfl (pc' := 34) rfl ?_
      refine mm_iload 4 dX2_fewestUnlike_34 rfl (pc' := 36) rfl ?_
      obtain ⟨x36, c36, e36, h⟩ := mm_rd_of h
      refine mm_lald dX2_fewestUnlike_36 rfl c36 e36 (pc' := 37) rfl ?_
      clear c36 e36
      refine mm_lxor dX2_fewestUnlike_37 (pc' := 38) rfl ?_
      obtain ⟨t38, h38, h⟩ := mm_bd h
      refine mm_callS (As := [.long (x29 ^^^ x36)]) (rest := []) (av := [.long (x29 ^^^ x36)]) (wc := []) (is := []) cS_X2_72 (ok_J13_bitCount_95d88 h38) ⟨rfl, rfl, Nat.le_of_ble_eq_true rfl, Nat.le_of_ble_eq_true rfl⟩ dX2_fewestUnlike_38 rfl rfl rfl ⟨rfl, by decide, by decide⟩ (by rintro _ _ ⟨-, rfl⟩; rfl) (Nat.le_of_ble_eq_true rfl) ⟨Nat.le_of_ble_eq_true rfl, Nat.le_of_ble_eq_true rfl⟩ (pc' := 41) rfl ?_
      rintro rv w ⟨rfl, rfl⟩
      show mm_Wp _ _ _ _ 41 [(0, .ref 0), (1, .ref 4), (2, .int v2), (3, .int v3), (4, .int v4)] [.int t38] (W_X2_X2 q_known q_lights q_places_y q_places_boxes q_places_lastColumn q_places_lastTop q_places_columns u_known u_lights u_places_y u_places_boxes u_places_lastColumn u_places_lastTop u_places_columns)
      clear h38
      refine mm_istore dX2_fewestUnlike_41 (by decide) (l' := [(5, .int t38), (0, .ref 0), (1, .ref 4), (2, .int v2), (3, .int v3), (4, .int v4)]) rfl (pc' := 43) rfl ?_
      refine mm_iload_n 3 dX2_fewestUnlike_43 rfl rfl (pc' := 44) rfl ?_
      refine mm_iconst dX2_fewestUnlike_44 ki_m1 (pc' := 45) rfl ?_
      refine mm_icmp_eq (tgt := 54) dX2_fewestUnlike_45 (by decide) (pc' := 48) rfl (fun c => ?_) (fun c => ?_)
      · replace h := mm_it h c
        clear c
        exact mm_sub [1, 2, 4, 5, 0] rfl (s_X2_fewestUnlike_J54 (hr4 := hr4) (hr15 := hr15) h)
      · replace h := mm_if h c
        clear c
        refine mm_iload 0 dX2_fewestUnlike_48 rfl (pc' := 50) rfl ?_
        refine mm_iload_n 3 dX2_fewestUnlike_50 rfl rfl (pc' := 51) rfl ?_
        refine mm_icmp_ge (tgt := 57) dX2_fewestUnlike_51 (by decide) (pc' := 54) rfl (fun c => ?_) (fun c => ?_)
        · replace h := mm_it h c
          clear c
          exact mm_sub [1, 2, 3, 4, 5] rfl (s_X2_fewestUnlike_J57 (hr4 := hr4) (hr15 := hr15) h)
        · replace h := mm_if h c
          clear c
          exact mm_sub [1, 2, 4, 5, 0] rfl (s_X2_fewestUnlike_J54 (hr4 := hr4) (hr15 := hr15) h)
def X2_fewestUnlike_L4 (fu : Nat)  (q_known : Int32) (q_lights : Nat → Int64) (u_known : Int32) (u_lights : Nat → Int64)  : Nat → Int32 → Int32 → Option (Int32)
  | 0, _, _ => none
  | n + 1, v2, v3 => if q_known ≤ v3 then (some (v2)) else (X2_fewestUnlike_L15 fu (X2_fewestUnlike_L4 fu q_known q_lights u_known u_lights n) q_known q_lights u_known u_lights v3 fu v2 (0 : Int32))
set_option maxHeartbeats 4000000 in
set_option maxRecDepth 100000 in
theorem s_X2_fewestUnlike_L4 {fu : Nat} {q_known : Int32} {q_lights : Nat → Int64} {q_places_y : Int32} {q_places_boxes : Int32} {q_places_lastColumn : Int32} {q_places_lastTop : Int32} {q_places_columns : Nat → Int32} {u_known : Int32} {u_lights : Nat → Int64} {u_places_y : Int32} {u_places_boxes : Int32} {u_places_lastColumn : Int32} {u_places_lastTop : Int32} {u_places_columns : Nat → Int32} {r : Int32} : ∀ (n : Nat) (v2 : Int32) (v3 : Int32), X2_fewestUnlike_L4 fu q_known q_lights u_known u_lights n v2 v3 = some r → mm_Wp mX2_fewestUnlike (mm_R (P_X2_fewestUnlike q_known q_lights q_places_y q_places_boxes q_places_lastColumn q_places_lastTop q_places_columns u_known u_lights u_places_y u_places_boxes u_places_lastColumn u_places_lastTop u_places_columns r)) 0 0 4 [(0, .ref 0), (1, .ref 4), (2, .int v2), (3, .int v3)] [] (W_X2_X2 q_known q_lights q_places_y q_places_boxes q_places_lastColumn q_places_lastTop q_places_columns u_known u_lights u_places_y u_places_boxes u_places_lastColumn u_places_lastTop u_places_columns) := by
  intro n
  induction n with
  | zero =>
    intro v2 v3 h
    rw [X2_fewestUnlike_L4] at h
    cases h
  | succ n hr4 =>
    intro v2 v3 h
    rw [X2_fewestUnlike_L4] at h
    refine mm_iload_n 3 dX2_fewestUnlike_4 rfl rfl (pc' := 5) rfl ?_
    refine mm_aload_n 0 dX2_fewestUnlike_5 rfl rfl (pc' := 6) rfl ?_
    refine mm_getf fG_X2_15 dX2_fewestUnlike_6 rfl rfl (pc' := 9) rfl ?_
    refine mm_icmp_ge (tgt := 69) dX2_fewestUnlike_9 (by decide) (pc' := 12) rfl (fun c => ?_) (fun c => ?_)
    · replace h := mm_it h c
      clear c
      refine mm_iload_n 2 dX2_fewestUnlike_69 rfl rfl (pc' := 70) rfl ?_
      have h9 := Option.some.inj h
      subst h9
      exact mm_iret rfl dX2_fewestUnlike_70 ⟨rfl, rfl⟩
    · replace h := mm_if h c
      clear c
      refine mm_iconst dX2_fewestUnlike_12 ki_0 (pc' := 13) rfl ?_
      refine mm_istore dX2_fewestUnlike_13 (by decide) (l' := [(4, .int (0 : Int32)), (0, .ref 0), (1, .ref 4), (2, .int v2), (3, .int v3)]) rfl (pc' := 15) rfl ?_
      exact mm_sub [1, 2, 3, 4, 0] rfl (s_X2_fewestUnlike_L15 (hr4 := hr4) _ _ _ h)
def f_X2_fewestUnlike (fu : Nat) (q_known : Int32) (q_lights : Nat → Int64) (u_known : Int32) (u_lights : Nat → Int64) : Option (Int32) := X2_fewestUnlike_L4 fu q_known q_lights u_known u_lights fu (-1 : Int32) (0 : Int32)
set_option maxHeartbeats 4000000 in
set_option maxRecDepth 100000 in
theorem ok_X2_fewestUnlike {fu : Nat} {q_known : Int32} {q_lights : Nat → Int64} {q_places_y : Int32} {q_places_boxes : Int32} {q_places_lastColumn : Int32} {q_places_lastTop : Int32} {q_places_columns : Nat → Int32} {u_known : Int32} {u_lights : Nat → Int64} {u_places_y : Int32} {u_places_boxes : Int32} {u_places_lastColumn : Int32} {u_places_lastTop : Int32} {u_places_columns : Nat → Int32} {r : Int32} (h : f_X2_fewestUnlike fu q_known q_lights u_known u_lights = some r) : mm_Ok mX2_fewestUnlike [.ref 0, .ref 4] (W_X2_X2 q_known q_lights q_places_y q_places_boxes q_places_lastColumn q_places_lastTop q_places_columns u_known u_lights u_places_y u_places_boxes u_places_lastColumn u_places_lastTop u_places_columns) (P_X2_fewestUnlike q_known q_lights q_places_y q_places_boxes q_places_lastColumn q_places_lastTop q_places_columns u_known u_lights u_places_y u_places_boxes u_places_lastColumn u_places_lastTop u_places_columns r) := by
  rw [f_X2_fewestUnlike] at h
  refine mm_Ok.of pn_X2 (l := [(0, .ref 0), (1, .ref 4)]) rfl (Nat.le_of_ble_eq_true rfl) ?_
  refine mm_iconst dX2_fewestUnlike_0 ki_m1 (pc' := 1) rfl ?_
  refine mm_istore_n dX2_fewestUnlike_1 rfl (by decide) (l' := [(2, .int (-1 : Int32)), (0, .ref 0), (1, .ref 4)]) rfl (pc' := 2) rfl ?_
  refine mm_iconst dX2_fewestUnlike_2 ki_0 (pc' := 3) rfl ?_
  refine mm_istore_n dX2_fewestUnlike_3 rfl (by decide) (l' := [(3, .int (0 : Int32)), (2, .int (-1 : Int32)), (0, .ref 0), (1, .ref 4)]) rfl (pc' := 4) rfl ?_
  exact mm_sub [2, 3, 1, 0] rfl (s_X2_fewestUnlike_L4  _ _ _ h)

def P_X4_addBytes (q_items : Int32) (q_place : Int32) (q_token : Int32) (q_tokenAt : Int32) (q_tokenValue : Int32) (q_words : Nat → Int32) (q_numbers : Nat → Int32) (r : Int32 × Int32 × (Nat → Int32)) : Option Value → mm_W → Prop := fun rv w => rv = some (.int r.1) ∧ w = (W_X4 r.2.1 q_items q_place q_token q_tokenAt q_tokenValue r.2.2 q_words q_numbers)
def X4_addBytes_J11 (fu : Nat)  (q_length : Int32) (q_bytes : Nat → Int32)   : Option (Int32 × Int32 × (Nat → Int32)) := some ((-2 : Int32), q_length, q_bytes)
set_option maxHeartbeats 4000000 in
set_option maxRecDepth 100000 in
theorem s_X4_addBytes_J11 {fu : Nat} {q_length : Int32} {q_items : Int32} {q_place : Int32} {q_token : Int32} {q_tokenAt : Int32} {q_tokenValue : Int32} {q_bytes : Nat → Int32} {q_words : Nat → Int32} {q_numbers : Nat → Int32} {r : Int32 × Int32 × (Nat → Int32)} (h : X4_addBytes_J11 fu q_length q_bytes = some r) : mm_Wp mX4_addBytes (mm_R (P_X4_addBytes q_items q_place q_token q_tokenAt q_tokenValue q_words q_numbers r)) 0 0 11 [] [] (W_X4 q_length q_items q_place q_token q_tokenAt q_tokenValue q_bytes q_words q_numbers) := by
  rw [X4_addBytes_J11] at h
  refine mm_bipush dX4_addBytes_11 kb_m2 (pc' := 13) rfl ?_
  have h9 := Option.some.inj h
  subst h9
  exact mm_iret rfl dX4_addBytes_13 ⟨rfl, rfl⟩
def X4_addBytes_L34 (fu : Nat)   (v1 : Int64) : Nat → Int32 → (Nat → Int32) → Int32 → Option (Int32 × Int32 × (Nat → Int32))
  | 0, _, _, _ => none
  | n + 1, q_length, q_bytes, v4 => if v4 < 0 then (some (q_length, q_length, q_bytes)) else (mm_ck 200 q_length ((X4_addBytes_L34 fu v1 n) (q_length + (1 : Int32)) (upd q_bytes q_length.toNatClampNeg ((((v1.toUInt64 >>> (((8 : Int32) * v4).toInt64.toUInt64 &&& Int64.toUInt64 63)).toInt64) &&& (255 : Int64)).toInt32)) (v4 + (-1 : Int32))))
set_option maxHeartbeats 4000000 in
set_option maxRecDepth 100000 in
theorem s_X4_addBytes_L34 {fu : Nat} {q_items : Int32} {q_place : Int32} {q_token : Int32} {q_tokenAt : Int32} {q_tokenValue : Int32} {q_words : Nat → Int32} {q_numbers : Nat → Int32} {r : Int32 × Int32 × (Nat → Int32)} {v1 : Int64} : ∀ (n : Nat) (q_length : Int32) (q_bytes : Nat → Int32) (v4 : Int32), X4_addBytes_L34 fu v1 n q_length q_bytes v4 = some r → mm_Wp mX4_addBytes (mm_R (P_X4_addBytes q_items q_place q_token q_tokenAt q_tokenValue q_words q_numbers r)) 0 0 34 [(0, .ref 0), (1, .long v1), (4, .int v4)] [] (W_X4 q_length q_items q_place q_token q_tokenAt q_tokenValue q_bytes q_words q_numbers) := by
  intro n
  induction n with
  | zero =>
    intro q_length q_bytes v4 h
    rw [X4_addBytes_L34] at h
    cases h
  | succ n hr34 =>
    intro q_length q_bytes v4 h
    rw [X4_addBytes_L34] at h
    refine mm_iload 2 dX4_addBytes_34 rfl (pc' := 36) rfl ?_
    refine mm_if_lt (tgt := 76) dX4_addBytes_36 (by decide) (pc' := 39) rfl (fun c => ?_) (fun c => ?_)
    · replace h := mm_it h c
      clear c
      refine mm_aload_n 0 dX4_addBytes_76 rfl rfl (pc' := 77) rfl ?_
      refine mm_getf fG_X4_9 dX4_addBytes_77 rfl rfl (pc' := 80) rfl ?_
      have h9 := Option.some.inj h
      subst h9
      exact mm_iret rfl dX4_addBytes_80 ⟨rfl, rfl⟩
    · replace h := mm_if h c
      clear c
      refine mm_aload_n 0 dX4_addBytes_39 rfl rfl (pc' := 40) rfl ?_
      refine mm_getf fG_X4_18 dX4_addBytes_40 rfl rfl (pc' := 43) rfl ?_
      refine mm_aload_n 0 dX4_addBytes_43 rfl rfl (pc' := 44) rfl ?_
      refine mm_getf fG_X4_9 dX4_addBytes_44 rfl rfl (pc' := 47) rfl ?_
      refine mm_lload_n 1 dX4_addBytes_47 rfl rfl (pc' := 48) rfl ?_
      refine mm_bipush dX4_addBytes_48 kb_8 (pc' := 50) rfl ?_
      refine mm_iload 2 dX4_addBytes_50 rfl (pc' := 52) rfl ?_
      refine mm_imul dX4_addBytes_52 (pc' := 53) rfl ?_
      refine mm_lushr dX4_addBytes_53 (pc' := 54) rfl ?_
      refine mm_ldc2 kC_X4_40 dX4_addBytes_54 (pc' := 57) rfl ?_
      refine mm_land dX4_addBytes_57 (pc' := 58) rfl ?_
      refine mm_l2i dX4_addBytes_58 (pc' := 59) rfl ?_
      obtain ⟨c59, h⟩ := mm_ck_of h
      refine mm_iast dX4_addBytes_59 rfl c59 rfl (ws' := (W_X4 q_length q_items q_place q_token q_tokenAt q_tokenValue (upd q_bytes q_length.toNatClampNeg ((((v1.toUInt64 >>> (((8 : Int32) * v4).toInt64.toUInt64 &&& Int64.toUInt64 63)).toInt64) &&& (255 : Int64)).toInt32)) q_words q_numbers)) rfl (pc' := 60) rfl ?_
      clear c59
      refine mm_aload_n 0 dX4_addBytes_60 rfl rfl (pc' := 61) rfl ?_
      refine mm_dup dX4_addBytes_61 rfl (pc' := 62) rfl ?_
      refine mm_getf fG_X4_9 dX4_addBytes_62 rfl rfl (pc' := 65) rfl ?_
      refine mm_iconst dX4_addBytes_65 ki_1 (pc' := 66) rfl ?_
      refine mm_iadd dX4_addBytes_66 (pc' := 67) rfl ?_
      refine mm_putf fP_X4_9 dX4_addBytes_67 rfl (Nat.le_of_ble_eq_true rfl) (fun _ => rfl) (fun _ => rfl) (ws' := (W_X4 (q_length + (1 : Int32)) q_items q_place q_token q_tokenAt q_tokenValue (upd q_bytes q_length.toNatClampNeg ((((v1.toUInt64 >>> (((8 : Int32) * v4).toInt64.toUInt64 &&& Int64.toUInt64 63)).toInt64) &&& (255 : Int64)).toInt32)) q_words q_numbers)) rfl (pc' := 70) rfl ?_
      refine mm_iinc 2 dX4_addBytes_70 rfl ki_m1 (by decide) (l' := [(4, .int (v4 + (-1 : Int32))), (0, .ref 0), (1, .long v1)]) rfl (pc' := 73) rfl ?_
      refine mm_goto (tgt := 34) dX4_addBytes_73 (by decide) ?_
      exact mm_sub [1, 2, 0] rfl (hr34 _ _ _ h)
def f_X4_addBytes (fu : Nat) (q_length : Int32) (q_bytes : Nat → Int32) (v1 : Int64) (v3 : Int32) : Option (Int32 × Int32 × (Nat → Int32)) := if v3 < (1 : Int32) then (X4_addBytes_J11 fu q_length q_bytes) else (if v3 ≤ (8 : Int32) then (if (q_length + v3) ≤ (200 : Int32) then (X4_addBytes_L34 fu v1 fu q_length q_bytes (v3 - (1 : Int32))) else (some ((-4 : Int32), q_length, q_bytes))) else (X4_addBytes_J11 fu q_length q_bytes))
set_option maxHeartbeats 4000000 in
set_option maxRecDepth 100000 in
theorem ok_X4_addBytes {fu : Nat} {q_length : Int32} {q_items : Int32} {q_place : Int32} {q_token : Int32} {q_tokenAt : Int32} {q_tokenValue : Int32} {q_bytes : Nat → Int32} {q_words : Nat → Int32} {q_numbers : Nat → Int32} {r : Int32 × Int32 × (Nat → Int32)} {v1 : Int64} {v3 : Int32} (h : f_X4_addBytes fu q_length q_bytes v1 v3 = some r) : mm_Ok mX4_addBytes [.ref 0, .long v1, .int v3] (W_X4 q_length q_items q_place q_token q_tokenAt q_tokenValue q_bytes q_words q_numbers) (P_X4_addBytes q_items q_place q_token q_tokenAt q_tokenValue q_words q_numbers r) := by
  rw [f_X4_addBytes] at h
  refine mm_Ok.of pn_X4 (l := [(0, .ref 0), (1, .long v1), (3, .int v3)]) rfl (Nat.le_of_ble_eq_true rfl) ?_
  refine mm_iload_n 2 dX4_addBytes_0 rfl rfl (pc' := 1) rfl ?_
  refine mm_iconst dX4_addBytes_1 ki_1 (pc' := 2) rfl ?_
  refine mm_icmp_lt (tgt := 11) dX4_addBytes_2 (by decide) (pc' := 5) rfl (fun c => ?_) (fun c => ?_)
  · replace h := mm_it h c
    clear c
    exact mm_sub [] rfl (s_X4_addBytes_J11  h)
  · replace h := mm_if h c
    clear c
    refine mm_iload_n 2 dX4_addBytes_5 rfl rfl (pc' := 6) rfl ?_
    refine mm_bipush dX4_addBytes_6 kb_8 (pc' := 8) rfl ?_
    refine mm_icmp_le (tgt := 14) dX4_addBytes_8 (by decide) (pc' := 11) rfl (fun c => ?_) (fun c => ?_)
    · replace h := mm_it h c
      clear c
      refine mm_aload_n 0 dX4_addBytes_14 rfl rfl (pc' := 15) rfl ?_
      refine mm_getf fG_X4_9 dX4_addBytes_15 rfl rfl (pc' := 18) rfl ?_
      refine mm_iload_n 2 dX4_addBytes_18 rfl rfl (pc' := 19) rfl ?_
      refine mm_iadd dX4_addBytes_19 (pc' := 20) rfl ?_
      refine mm_sipush dX4_addBytes_20 ks_200 (pc' := 23) rfl ?_
      refine mm_icmp_le (tgt := 29) dX4_addBytes_23 (by decide) (pc' := 26) rfl (fun c => ?_) (fun c => ?_)
      · replace h := mm_it h c
        clear c
        refine mm_iload_n 2 dX4_addBytes_29 rfl rfl (pc' := 30) rfl ?_
        refine mm_iconst dX4_addBytes_30 ki_1 (pc' := 31) rfl ?_
        refine mm_isub dX4_addBytes_31 (pc' := 32) rfl ?_
        refine mm_istore dX4_addBytes_32 (by decide) (l' := [(4, .int (v3 - (1 : Int32))), (0, .ref 0), (1, .long v1), (3, .int v3)]) rfl (pc' := 34) rfl ?_
        exact mm_sub [1, 2, 0] rfl (s_X4_addBytes_L34  _ _ _ _ h)
      · replace h := mm_if h c
        clear c
        refine mm_bipush dX4_addBytes_26 kb_m4 (pc' := 28) rfl ?_
        have h9 := Option.some.inj h
        subst h9
        exact mm_iret rfl dX4_addBytes_28 ⟨rfl, rfl⟩
    · replace h := mm_if h c
      clear c
      exact mm_sub [] rfl (s_X4_addBytes_J11  h)

def P_X4_empty (q_items : Int32) (q_place : Int32) (q_token : Int32) (q_tokenAt : Int32) (q_tokenValue : Int32) (q_bytes : Nat → Int32) (q_words : Nat → Int32) (q_numbers : Nat → Int32) (r : Int32 × Int32) : Option Value → mm_W → Prop := fun rv w => rv = some (.int r.1) ∧ w = (W_X4 r.2 q_items q_place q_token q_tokenAt q_tokenValue q_bytes q_words q_numbers)
def f_X4_empty (fu : Nat) (q_length : Int32) : Option (Int32 × Int32) := some (q_length, (0 : Int32))
set_option maxHeartbeats 4000000 in
set_option maxRecDepth 100000 in
theorem ok_X4_empty {fu : Nat} {q_length : Int32} {q_items : Int32} {q_place : Int32} {q_token : Int32} {q_tokenAt : Int32} {q_tokenValue : Int32} {q_bytes : Nat → Int32} {q_words : Nat → Int32} {q_numbers : Nat → Int32} {r : Int32 × Int32} (h : f_X4_empty fu q_length = some r) : mm_Ok mX4_empty [.ref 0] (W_X4 q_length q_items q_place q_token q_tokenAt q_tokenValue q_bytes q_words q_numbers) (P_X4_empty q_items q_place q_token q_tokenAt q_tokenValue q_bytes q_words q_numbers r) := by
  rw [f_X4_empty] at h
  refine mm_Ok.of pn_X4 (l := [(0, .ref 0)]) rfl (Nat.le_of_ble_eq_true rfl) ?_
  refine mm_aload_n 0 dX4_empty_0 rfl rfl (pc' := 1) rfl ?_
  refine mm_getf fG_X4_9 dX4_empty_1 rfl rfl (pc' := 4) rfl ?_
  refine mm_istore_n dX4_empty_4 rfl (by decide) (l' := [(1, .int q_length), (0, .ref 0)]) rfl (pc' := 5) rfl ?_
  refine mm_aload_n 1 dX4_empty_5 rfl rfl (pc' := 6) rfl ?_
  refine mm_iconst dX4_empty_6 ki_0 (pc' := 7) rfl ?_
  refine mm_putf fP_X4_9 dX4_empty_7 rfl (Nat.le_of_ble_eq_true rfl) (fun _ => rfl) (fun _ => rfl) (ws' := (W_X4 (0 : Int32) q_items q_place q_token q_tokenAt q_tokenValue q_bytes q_words q_numbers)) rfl (pc' := 10) rfl ?_
  refine mm_iload_n 0 dX4_empty_10 rfl rfl (pc' := 11) rfl ?_
  have h9 := Option.some.inj h
  subst h9
  exact mm_iret rfl dX4_empty_11 ⟨rfl, rfl⟩

def P_X4_isFigure  (r : Int32) : Option Value → mm_W → Prop := fun rv w => rv = some (.int r) ∧ w = []
def X4_isFigure_J16 (fu : Nat)     : Option (Int32) := some ((0 : Int32))
set_option maxHeartbeats 4000000 in
set_option maxRecDepth 100000 in
theorem s_X4_isFigure_J16 {fu : Nat} {r : Int32} (h : X4_isFigure_J16 fu = some r) : mm_Wp mX4_isFigure (mm_R (P_X4_isFigure r)) 0 0 16 [] [] [] := by
  rw [X4_isFigure_J16] at h
  refine mm_iconst dX4_isFigure_16 ki_0 (pc' := 17) rfl ?_
  have h9 := Option.some.inj h
  subst h9
  exact mm_zret rfl (by decide) dX4_isFigure_17 ⟨rfl, rfl⟩
def f_X4_isFigure (fu : Nat) (v0 : Int32) : Option (Int32) := if v0 < (48 : Int32) then (X4_isFigure_J16 fu) else (if (57 : Int32) < v0 then (X4_isFigure_J16 fu) else (some ((1 : Int32))))
set_option maxHeartbeats 4000000 in
set_option maxRecDepth 100000 in
theorem ok_X4_isFigure {fu : Nat} {r : Int32} {v0 : Int32} (h : f_X4_isFigure fu v0 = some r) : mm_Ok mX4_isFigure [.int v0] [] (P_X4_isFigure r) := by
  rw [f_X4_isFigure] at h
  refine mm_Ok.of pn_X4 (l := [(0, .int v0)]) rfl (Nat.le_of_ble_eq_true rfl) ?_
  refine mm_iload_n 0 dX4_isFigure_0 rfl rfl (pc' := 1) rfl ?_
  refine mm_bipush dX4_isFigure_1 kb_48 (pc' := 3) rfl ?_
  refine mm_icmp_lt (tgt := 16) dX4_isFigure_3 (by decide) (pc' := 6) rfl (fun c => ?_) (fun c => ?_)
  · replace h := mm_it h c
    clear c
    exact mm_sub [] rfl (s_X4_isFigure_J16  h)
  · replace h := mm_if h c
    clear c
    refine mm_iload_n 0 dX4_isFigure_6 rfl rfl (pc' := 7) rfl ?_
    refine mm_bipush dX4_isFigure_7 kb_57 (pc' := 9) rfl ?_
    refine mm_icmp_gt (tgt := 16) dX4_isFigure_9 (by decide) (pc' := 12) rfl (fun c => ?_) (fun c => ?_)
    · replace h := mm_it h c
      clear c
      exact mm_sub [] rfl (s_X4_isFigure_J16  h)
    · replace h := mm_if h c
      clear c
      refine mm_iconst dX4_isFigure_12 ki_1 (pc' := 13) rfl ?_
      refine mm_goto (tgt := 17) dX4_isFigure_13 (by decide) ?_
      have h9 := Option.some.inj h
      subst h9
      exact mm_zret rfl (by decide) dX4_isFigure_17 ⟨rfl, rfl⟩

def P_X4_takeNumber (q_length : Int32) (q_items : Int32) (q_tokenAt : Int32) (q_bytes : Nat → Int32) (q_words : Nat → Int32) (q_numbers : Nat → Int32) (r : Int32 × Int32 × Int32) : Option Value → mm_W → Prop := fun rv w => rv = none ∧ w = (W_X4 q_length q_items r.1 r.2.1 q_tokenAt r.2.2 q_bytes q_words q_numbers)
def X4_takeNumber_J100 (fu : Nat)  (q_length : Int32) (q_place : Int32) (q_token : Int32) (q_tokenAt : Int32) (q_tokenValue : Int32) (q_bytes : Nat → Int32)  (s0 : Int32) : Option (Int32 × Int32 × Int32) := some (q_place, s0, q_tokenValue)
set_option maxHeartbeats 4000000 in
set_option maxRecDepth 100000 in
theorem s_X4_takeNumber_J100 {fu : Nat} {q_length : Int32} {q_items : Int32} {q_place : Int32} {q_token : Int32} {q_tokenAt : Int32} {q_tokenValue : Int32} {q_bytes : Nat → Int32} {q_words : Nat → Int32} {q_numbers : Nat → Int32} {r : Int32 × Int32 × Int32} {s0 : Int32} (h : X4_takeNumber_J100 fu q_length q_place q_token q_tokenAt q_tokenValue q_bytes s0 = some r) : mm_Wp mX4_takeNumber (mm_R (P_X4_takeNumber q_length q_items q_tokenAt q_bytes q_words q_numbers r)) 0 0 100 [] [.int s0, .ref 0] (W_X4 q_length q_items q_place q_token q_tokenAt q_tokenValue q_bytes q_words q_numbers) := by
  rw [X4_takeNumber_J100] at h
  refine mm_putf fP_X4_31 dX4_takeNumber_100 rfl (Nat.le_of_ble_eq_true rfl) (fun _ => rfl) (fun _ => rfl) (ws' := (W_X4 q_length q_items q_place s0 q_tokenAt q_tokenValue q_bytes q_words q_numbers)) rfl (pc' := 103) rfl ?_
  have h9 := Option.some.inj h
  subst h9
  exact mm_vret rfl dX4_takeNumber_103 ⟨rfl, rfl⟩
def X4_takeNumber_J81 (fu : Nat)  (q_length : Int32) (q_place : Int32) (q_token : Int32) (q_tokenAt : Int32) (q_tokenValue : Int32) (q_bytes : Nat → Int32)   : Option (Int32 × Int32 × Int32) := if (q_place - q_tokenAt) ≤ (4 : Int32) then (X4_takeNumber_J100 fu q_length q_place q_token q_tokenAt q_tokenValue q_bytes (1 : Int32)) else (X4_takeNumber_J100 fu q_length q_place q_token q_tokenAt q_tokenValue q_bytes (4 : Int32))
set_option maxHeartbeats 4000000 in
set_option maxRecDepth 100000 in
theorem s_X4_takeNumber_J81 {fu : Nat} {q_length : Int32} {q_items : Int32} {q_place : Int32} {q_token : Int32} {q_tokenAt : Int32} {q_tokenValue : Int32} {q_bytes : Nat → Int32} {q_words : Nat → Int32} {q_numbers : Nat → Int32} {r : Int32 × Int32 × Int32} (h : X4_takeNumber_J81 fu q_length q_place q_token q_tokenAt q_tokenValue q_bytes = some r) : mm_Wp mX4_takeNumber (mm_R (P_X4_takeNumber q_length q_items q_tokenAt q_bytes q_words q_numbers r)) 0 0 81 [(0, .ref 0)] [] (W_X4 q_length q_items q_place q_token q_tokenAt q_tokenValue q_bytes q_words q_numbers) := by
  rw [X4_takeNumber_J81] at h
  refine mm_aload_n 0 dX4_takeNumber_81 rfl rfl (pc' := 82) rfl ?_
  refine mm_aload_n 0 dX4_takeNumber_82 rfl rfl (pc' := 83) rfl ?_
  refine mm_getf fG_X4_28 dX4_takeNumber_83 rfl rfl (pc' := 86) rfl ?_
  refine mm_aload_n 0 dX4_takeNumber_86 rfl rfl (pc' := 87) rfl ?_
  refine mm_getf fG_X4_34 dX4_takeNumber_87 rfl rfl (pc' := 90) rfl ?_
  refine mm_isub dX4_takeNumber_90 (pc' := 91) rfl ?_
  refine mm_iconst dX4_takeNumber_91 ki_4 (pc' := 92) rfl ?_
  refine mm_icmp_le (tgt := 99) dX4_takeNumber_92 (by decide) (pc' := 95) rfl (fun c => ?_) (fun c => ?_)
  · replace h := mm_it h c
    clear c
    refine mm_iconst dX4_takeNumber_99 ki_1 (pc' := 100) rfl ?_
    exact mm_sub [] rfl (s_X4_takeNumber_J100  h)
  · replace h := mm_if h c
    clear c
    refine mm_iconst dX4_takeNumber_95 ki_4 (pc' := 96) rfl ?_
    refine mm_goto (tgt := 100) dX4_takeNumber_96 (by decide) ?_
    exact mm_sub [] rfl (s_X4_takeNumber_J100  h)
def X4_takeNumber_J68 (fu : Nat) (rec5 : Int32 → Int32 → Option (Int32 × Int32 × Int32)) (q_length : Int32) (q_place : Int32) (q_token : Int32) (q_tokenAt : Int32) (q_tokenValue : Int32) (q_bytes : Nat → Int32)   : Option (Int32 × Int32 × Int32) := rec5 (q_place + (1 : Int32)) q_tokenValue
set_option maxHeartbeats 4000000 in
set_option maxRecDepth 100000 in
theorem s_X4_takeNumber_J68 {fu : Nat} {q_length : Int32} {q_items : Int32} {q_place : Int32} {q_token : Int32} {q_tokenAt : Int32} {q_tokenValue : Int32} {q_bytes : Nat → Int32} {q_words : Nat → Int32} {q_numbers : Nat → Int32} {r : Int32 × Int32 × Int32} {rec5 : Int32 → Int32 → Option (Int32 × Int32 × Int32)} (hr5 : ∀ (z_q_place : Int32) (z_q_tokenValue : Int32), rec5 z_q_place z_q_tokenValue = some r → mm_Wp mX4_takeNumber (mm_R (P_X4_takeNumber q_length q_items q_tokenAt q_bytes q_words q_numbers r)) 0 0 5 [(0, .ref 0)] [] (W_X4 q_length q_items z_q_place q_token q_tokenAt z_q_tokenValue q_bytes q_words q_numbers)) (h : X4_takeNumber_J68 fu rec5 q_length q_place q_token q_tokenAt q_tokenValue q_bytes = some r) : mm_Wp mX4_takeNumber (mm_R (P_X4_takeNumber q_length q_items q_tokenAt q_bytes q_words q_numbers r)) 0 0 68 [(0, .ref 0)] [] (W_X4 q_length q_items q_place q_token q_tokenAt q_tokenValue q_bytes q_words q_numbers) := by
  rw [X4_takeNumber_J68] at h
  refine mm_aload_n 0 dX4_takeNumber_68 rfl rfl (pc' := 69) rfl ?_
  refine mm_dup dX4_takeNumber_69 rfl (pc' := 70) rfl ?_
  refine mm_getf fG_X4_28 dX4_takeNumber_70 rfl rfl (pc' := 73) rfl ?_
  refine mm_iconst dX4_takeNumber_73 ki_1 (pc' := 74) rfl ?_
  refine mm_iadd dX4_takeNumber_74 (pc' := 75) rfl ?_
  refine mm_putf fP_X4_28 dX4_takeNumber_75 rfl (Nat.le_of_ble_eq_true rfl) (fun _ => rfl) (fun _ => rfl) (ws' := (W_X4 q_length q_items (q_place + (1 : Int32)) q_token q_tokenAt q_tokenValue q_bytes q_words q_numbers)) rfl (pc' := 78) rfl ?_
  refine mm_goto (tgt := 5) dX4_takeNumber_78 (by decide) ?_
  exact hr5 _ _ h
def X4_takeNumber_L5 (fu : Nat)  (q_length : Int32) (q_token : Int32) (q_tokenAt : Int32) (q_bytes : Nat → Int32)  : Nat → Int32 → Int32 → Option (Int32 × Int32 × Int32)
  | 0, _, _ => none
  | n + 1, q_place, q_tokenValue => if q_length ≤ q_place then (X4_takeNumber_J81 fu q_length q_place q_token q_tokenAt q_tokenValue q_bytes) else (mm_rd q_bytes 200 q_place fun x24 => (f_X4_isFigure fu x24).bind fun t25 => if t25 = 0 then (X4_takeNumber_J81 fu q_length q_place q_token q_tokenAt q_tokenValue q_bytes) else (if (4 : Int32) ≤ (q_place - q_tokenAt) then (X4_takeNumber_J68 fu (X4_takeNumber_L5 fu q_length q_token q_tokenAt q_bytes n) q_length q_place q_token q_tokenAt q_tokenValue q_bytes) else (mm_rd q_bytes 200 q_place fun x60 => X4_takeNumber_J68 fu (X4_takeNumber_L5 fu q_length q_token q_tokenAt q_bytes n) q_length q_place q_token q_tokenAt ((((10 : Int32) * q_tokenValue) + x60) - (48 : Int32)) q_bytes)))
set_option maxHeartbeats 4000000 in
set_option maxRecDepth 100000 in
theorem s_X4_takeNumber_L5 {fu : Nat} {q_length : Int32} {q_items : Int32} {q_token : Int32} {q_tokenAt : Int32} {q_bytes : Nat → Int32} {q_words : Nat → Int32} {q_numbers : Nat → Int32} {r : Int32 × Int32 × Int32} : ∀ (n : Nat) (q_place : Int32) (q_tokenValue : Int32), X4_takeNumber_L5 fu q_length q_token q_tokenAt q_bytes n q_place q_tokenValue = some r → mm_Wp mX4_takeNumber (mm_R (P_X4_takeNumber q_length q_items q_tokenAt q_bytes q_words q_numbers r)) 0 0 5 [(0, .ref 0)] [] (W_X4 q_length q_items q_place q_token q_tokenAt q_tokenValue q_bytes q_words q_numbers) := by
  intro n
  induction n with
  | zero =>
    intro q_place q_tokenValue h
    rw [X4_takeNumber_L5] at h
    cases h
  | succ n hr5 =>
    intro q_place q_tokenValue h
    rw [X4_takeNumber_L5] at h
    refine mm_aload_n 0 dX4_takeNumber_5 rfl rfl (pc' := 6) rfl ?_
    refine mm_getf fG_X4_28 dX4_takeNumber_6 rfl rfl (pc' := 9) rfl ?_
    refine mm_aload_n 0 dX4_takeNumber_9 rfl rfl (pc' := 10) rfl ?_
    refine mm_getf fG_X4_9 dX4_takeNumber_10 rfl rfl (pc' := 13) rfl ?_
    refine mm_icmp_ge (tgt := 81) dX4_takeNumber_13 (by decide) (pc' := 16) rfl (fun c => ?_) (fun c => ?_)
    · replace h := mm_it h c
      clear c
      exact s_X4_takeNumber_J81  h
    · replace h := mm_if h c
      clear c
      refine mm_aload_n 0 dX4_takeNumber_16 rfl rfl (pc' := 17) rfl ?_
      refine mm_getf fG_X4_18 dX4_takeNumber_17 rfl rfl (pc' := 20) rfl ?_
      refine mm_aload_n 0 dX4_takeNumber_20 rfl rfl (pc' := 21) rfl ?_
      refine mm_getf fG_X4_28 dX4_takeNumber_21 rfl rfl (pc' := 24) rfl ?_
      obtain ⟨x24, c24, e24, h⟩ := mm_rd_of h
      refine mm_iald dX4_takeNumber_24 rfl c24 e24 (pc' := 25) rfl ?_
      clear c24 e24
      obtain ⟨t25, h25, h⟩ := mm_bd h
      refine mm_callS (As := [.int x24]) (rest := []) (av := [.int x24]) (wc := []) (is := []) cS_X4_53 (ok_X4_isFigure h25) ⟨rfl, rfl, Nat.le_of_ble_eq_true rfl, Nat.le_of_ble_eq_true rfl⟩ dX4_takeNumber_25 rfl rfl rfl ⟨rfl, by decide, by decide⟩ (by rintro _ _ ⟨-, rfl⟩; rfl) (Nat.le_of_ble_eq_true rfl) ⟨Nat.le_of_ble_eq_true rfl, Nat.le_of_ble_eq_true rfl⟩ (pc' := 28) rfl ?_
      rintro rv w ⟨rfl, rfl⟩
      show mm_Wp _ _ _ _ 28 [(0, .ref 0)] [.int t25] (W_X4 q_length q_items q_place q_token q_tokenAt q_tokenValue q_bytes q_words q_numbers)
      clear h25
      refine mm_if_eq (tgt := 81) dX4_takeNumber_28 (by decide) (pc' := 31) rfl (fun c => ?_) (fun c => ?_)
      · replace h := mm_it h c
        clear c
        exact s_X4_takeNumber_J81  h
      · replace h := mm_if h c
        clear c
        refine mm_aload_n 0 dX4_takeNumber_31 rfl rfl (pc' := 32) rfl ?_
        refine mm_getf fG_X4_28 dX4_takeNumber_32 rfl rfl (pc' := 35) rfl ?_
        refine mm_aload_n 0 dX4_takeNumber_35 rfl rfl (pc' := 36) rfl ?_
        refine mm_getf fG_X4_34 dX4_takeNumber_36 rfl rfl (pc' := 39) rfl ?_
        refine mm_isub dX4_takeNumber_39 (pc' := 40) rfl ?_
        refine mm_iconst dX4_takeNumber_40 ki_4 (pc' := 41) rfl ?_
        refine mm_icmp_ge (tgt := 68) dX4_takeNumber_41 (by decide) (pc' := 44) rfl (fun c => ?_) (fun c => ?_)
        · replace h := mm_it h c
          clear c
          exact s_X4_takeNumber_J68 (hr5 := hr5) h
        · replace h := mm_if h c
          clear c
          refine mm_aload_n 0 dX4_takeNumber_44 rfl rfl (pc' := 45) rfl ?_
          refine mm_bipush dX4_takeNumber_45 kb_10 (pc' := 47) rfl ?_
          refine mm_aload_n 0 dX4_takeNumber_47 rfl rfl (pc' := 48) rfl ?_
          refine mm_getf fG_X4_37 dX4_takeNumber_48 rfl rfl (pc' := 51) rfl ?_
          refine mm_imul dX4_takeNumber_51 (pc' := 52) rfl ?_
          refine mm_aload_n 0 dX4_takeNumber_52 rfl rfl (pc' := 53) rfl ?_
          refine mm_getf fG_X4_18 dX4_takeNumber_53 rfl rfl (pc' := 56) rfl ?_
          refine mm_aload_n 0 dX4_takeNumber_56 rfl rfl (pc' := 57) rfl ?_
          refine mm_getf fG_X4_28 dX4_takeNumber_57 rfl rfl (pc' := 60) rfl ?_
          obtain ⟨x60, c60, e60, h⟩ := mm_rd_of h
          refine mm_iald dX4_takeNumber_60 rfl c60 e60 (pc' := 61) rfl ?_
          clear c60 e60
          refine mm_iadd dX4_takeNumber_61 (pc' := 62) rfl ?_
          refine mm_bipush dX4_takeNumber_62 kb_48 (pc' := 64) rfl ?_
          refine mm_isub dX4_takeNumber_64 (pc' := 65) rfl ?_
          refine mm_putf fP_X4_37 dX4_takeNumber_65 rfl (Nat.le_of_ble_eq_true rfl) (fun _ => rfl) (fun _ => rfl) (ws' := (W_X4 q_length q_items q_place q_token q_tokenAt ((((10 : Int32) * q_tokenValue) + x60) - (48 : Int32)) q_bytes q_words q_numbers)) rfl (pc' := 68) rfl ?_
          exact s_X4_takeNumber_J68 (hr5 := hr5) h
def f_X4_takeNumber (fu : Nat) (q_length : Int32) (q_place : Int32) (q_token : Int32) (q_tokenAt : Int32) (q_tokenValue : Int32) (q_bytes : Nat → Int32) : Option (Int32 × Int32 × Int32) := X4_takeNumber_L5 fu q_length q_token q_tokenAt q_bytes fu q_place (0 : Int32)
set_option maxHeartbeats 4000000 in
set_option maxRecDepth 100000 in
theorem ok_X4_takeNumber {fu : Nat} {q_length : Int32} {q_items : Int32} {q_place : Int32} {q_token : Int32} {q_tokenAt : Int32} {q_tokenValue : Int32} {q_bytes : Nat → Int32} {q_words : Nat → Int32} {q_numbers : Nat → Int32} {r : Int32 × Int32 × Int32} (h : f_X4_takeNumber fu q_length q_place q_token q_tokenAt q_tokenValue q_bytes = some r) : mm_Ok mX4_takeNumber [.ref 0] (W_X4 q_length q_items q_place q_token q_tokenAt q_tokenValue q_bytes q_words q_numbers) (P_X4_takeNumber q_length q_items q_tokenAt q_bytes q_words q_numbers r) := by
  rw [f_X4_takeNumber] at h
  refine mm_Ok.of pn_X4 (l := [(0, .ref 0)]) rfl (Nat.le_of_ble_eq_true rfl) ?_
  refine mm_aload_n 0 dX4_takeNumber_0 rfl rfl (pc' := 1) rfl ?_
  refine mm_iconst dX4_takeNumber_1 ki_0 (pc' := 2) rfl ?_
  refine mm_putf fP_X4_37 dX4_takeNumber_2 rfl (Nat.le_of_ble_eq_true rfl) (fun _ => rfl) (fun _ => rfl) (ws' := (W_X4 q_length q_items q_place q_token q_tokenAt (0 : Int32) q_bytes q_words q_numbers)) rfl (pc' := 5) rfl ?_
  exact s_X4_takeNumber_L5  _ _ _ h

def P_X4_isSmallLetter  (r : Int32) : Option Value → mm_W → Prop := fun rv w => rv = some (.int r) ∧ w = []
def X4_isSmallLetter_J16 (fu : Nat)     : Option (Int32) := some ((0 : Int32))
set_option maxHeartbeats 4000000 in
set_option maxRecDepth 100000 in
theorem s_X4_isSmallLetter_J16 {fu : Nat} {r : Int32} (h : X4_isSmallLetter_J16 fu = some r) : mm_Wp mX4_isSmallLetter (mm_R (P_X4_isSmallLetter r)) 0 0 16 [] [] [] := by
  rw [X4_isSmallLetter_J16] at h
  refine mm_iconst dX4_isSmallLetter_16 ki_0 (pc' := 17) rfl ?_
  have h9 := Option.some.inj h
  subst h9
  exact mm_zret rfl (by decide) dX4_isSmallLetter_17 ⟨rfl, rfl⟩
def f_X4_isSmallLetter (fu : Nat) (v0 : Int32) : Option (Int32) := if v0 < (97 : Int32) then (X4_isSmallLetter_J16 fu) else (if (122 : Int32) < v0 then (X4_isSmallLetter_J16 fu) else (some ((1 : Int32))))
set_option maxHeartbeats 4000000 in
set_option maxRecDepth 100000 in
theorem ok_X4_isSmallLetter {fu : Nat} {r : Int32} {v0 : Int32} (h : f_X4_isSmallLetter fu v0 = some r) : mm_Ok mX4_isSmallLetter [.int v0] [] (P_X4_isSmallLetter r) := by
  rw [f_X4_isSmallLetter] at h
  refine mm_Ok.of pn_X4 (l := [(0, .int v0)]) rfl (Nat.le_of_ble_eq_true rfl) ?_
  refine mm_iload_n 0 dX4_isSmallLetter_0 rfl rfl (pc' := 1) rfl ?_
  refine mm_bipush dX4_isSmallLetter_1 kb_97 (pc' := 3) rfl ?_
  refine mm_icmp_lt (tgt := 16) dX4_isSmallLetter_3 (by decide) (pc' := 6) rfl (fun c => ?_) (fun c => ?_)
  · replace h := mm_it h c
    clear c
    exact mm_sub [] rfl (s_X4_isSmallLetter_J16  h)
  · replace h := mm_if h c
    clear c
    refine mm_iload_n 0 dX4_isSmallLetter_6 rfl rfl (pc' := 7) rfl ?_
    refine mm_bipush dX4_isSmallLetter_7 kb_122 (pc' := 9) rfl ?_
    refine mm_icmp_gt (tgt := 16) dX4_isSmallLetter_9 (by decide) (pc' := 12) rfl (fun c => ?_) (fun c => ?_)
    · replace h := mm_it h c
      clear c
      exact mm_sub [] rfl (s_X4_isSmallLetter_J16  h)
    · replace h := mm_if h c
      clear c
      refine mm_iconst dX4_isSmallLetter_12 ki_1 (pc' := 13) rfl ?_
      refine mm_goto (tgt := 17) dX4_isSmallLetter_13 (by decide) ?_
      have h9 := Option.some.inj h
      subst h9
      exact mm_zret rfl (by decide) dX4_isSmallLetter_17 ⟨rfl, rfl⟩

def P_X4_wordOf  (r : Nat) : Option Value → mm_W → Prop := fun rv w => rv = some (.ref r) ∧ w = []
def f_X4_wordOf (fu : Nat) (v0 : Int32) : Option (Nat) := if v0 = (0 : Int32) then (some (1000)) else (if v0 = (1 : Int32) then (some (1001)) else (if v0 = (2 : Int32) then (some (1002)) else (if v0 = (3 : Int32) then (some (1003)) else (if v0 = (4 : Int32) then (some (1004)) else (some (1005))))))
set_option maxHeartbeats 4000000 in
set_option maxRecDepth 100000 in
theorem ok_X4_wordOf {fu : Nat} {r : Nat} {v0 : Int32} (h : f_X4_wordOf fu v0 = some r) : mm_Ok mX4_wordOf [.int v0] [] (P_X4_wordOf r) := by
  rw [f_X4_wordOf] at h
  refine mm_Ok.of pn_X4 (l := [(0, .int v0)]) rfl (Nat.le_of_ble_eq_true rfl) ?_
  refine mm_iload_n 0 dX4_wordOf_0 rfl rfl (pc' := 1) rfl ?_
  by_cases c0 : v0 = (0 : Int32)
  · replace h := mm_it h c0
    refine mm_tswIn (off := 35) (tgt := 36) (0 : Int32) c0 dX4_wordOf_1 (by decide) (by decide) (by decide) (by decide) ?_
    clear c0
    refine mm_ldcS 0 rfl rfl dX4_wordOf_36 (pc' := 38) rfl ?_
    have h9 := Option.some.inj h
    subst h9
    exact mm_aret rfl dX4_wordOf_38 ⟨rfl, rfl⟩
  replace h := mm_if h c0
  by_cases c1 : v0 = (1 : Int32)
  · replace h := mm_it h c1
    refine mm_tswIn (off := 38) (tgt := 39) (1 : Int32) c1 dX4_wordOf_1 (by decide) (by decide) (by decide) (by decide) ?_
    clear c0 c1
    refine mm_ldcS 1 rfl rfl dX4_wordOf_39 (pc' := 41) rfl ?_
    have h9 := Option.some.inj h
    subst h9
    exact mm_aret rfl dX4_wordOf_41 ⟨rfl, rfl⟩
  replace h := mm_if h c1
  by_cases c2 : v0 = (2 : Int32)
  · replace h := mm_it h c2
    refine mm_tswIn (off := 41) (tgt := 42) (2 : Int32) c2 dX4_wordOf_1 (by decide) (by decide) (by decide) (by decide) ?_
    clear c0 c1 c2
    refine mm_ldcS 2 rfl rfl dX4_wordOf_42 (pc' := 44) rfl ?_
    have h9 := Option.some.inj h
    subst h9
    exact mm_aret rfl dX4_wordOf_44 ⟨rfl, rfl⟩
  replace h := mm_if h c2
  by_cases c3 : v0 = (3 : Int32)
  · replace h := mm_it h c3
    refine mm_tswIn (off := 44) (tgt := 45) (3 : Int32) c3 dX4_wordOf_1 (by decide) (by decide) (by decide) (by decide) ?_
    clear c0 c1 c2 c3
    refine mm_ldcS 3 rfl rfl dX4_wordOf_45 (pc' := 47) rfl ?_
    have h9 := Option.some.inj h
    subst h9
    exact mm_aret rfl dX4_wordOf_47 ⟨rfl, rfl⟩
  replace h := mm_if h c3
  by_cases c4 : v0 = (4 : Int32)
  · replace h := mm_it h c4
    refine mm_tswIn (off := 47) (tgt := 48) (4 : Int32) c4 dX4_wordOf_1 (by decide) (by decide) (by decide) (by decide) ?_
    clear c0 c1 c2 c3 c4
    refine mm_ldcS 4 rfl rfl dX4_wordOf_48 (pc' := 50) rfl ?_
    have h9 := Option.some.inj h
    subst h9
    exact mm_aret rfl dX4_wordOf_50 ⟨rfl, rfl⟩
  replace h := mm_if h c4
  refine mm_tswOut (tgt := 51) 0 5 [0, 1, 2, 3, 4] (by decide +kernel) (mm_fa c0 (mm_fa c1 (mm_fa c2 (mm_fa c3 (mm_fa c4 mm_f0))))) dX4_wordOf_1 rfl rfl (by decide) ?_
  clear c0 c1 c2 c3 c4
  refine mm_ldcS 5 rfl rfl dX4_wordOf_51 (pc' := 53) rfl ?_
  have h9 := Option.some.inj h
  subst h9
  exact mm_aret rfl dX4_wordOf_53 ⟨rfl, rfl⟩
set_option maxHeartbeats 4000000 in
set_option maxRecDepth 100000 in
theorem mm_rn_ge {t : Nat} (h : 1000 ≤ t) : mm_rn [] t = t := by
  unfold mm_rn
  rw [if_neg (by omega)]
set_option maxHeartbeats 4000000 in
set_option maxRecDepth 100000 in
theorem wordOf_ge {fu : Nat} {v : Int32} {t : Nat} (h : f_X4_wordOf fu v = some t) : 1000 ≤ t := by
  unfold f_X4_wordOf at h
  (repeat' split at h) <;> (have h9 := Option.some.inj h; omega)

def P_X4_isTokenText (q_length : Int32) (q_items : Int32) (q_place : Int32) (q_token : Int32) (q_tokenAt : Int32) (q_tokenValue : Int32) (q_bytes : Nat → Int32) (q_words : Nat → Int32) (q_numbers : Nat → Int32) (r : Int32) : Option Value → mm_W → Prop := fun rv w => rv = some (.int r) ∧ w = (W_X4 q_length q_items q_place q_token q_tokenAt q_tokenValue q_bytes q_words q_numbers)
def X4_isTokenText_L20 (fu : Nat)  (q_place : Int32) (q_tokenAt : Int32) (q_bytes : Nat → Int32) (v1 : Nat) : Nat → Int32 → Option (Int32)
  | 0, _ => none
  | n + 1, v2 => (f_J0_length v1).bind fun t22 => if t22 ≤ v2 then (some ((1 : Int32))) else ((f_J0_charAt v1 v2).bind fun t30 => mm_rd q_bytes 200 (q_tokenAt + v2) fun x43 => if t30 = x43 then ((X4_isTokenText_L20 fu q_place q_tokenAt q_bytes v1 n) (v2 + (1 : Int32))) else (some ((0 : Int32))))
set_option maxHeartbeats 4000000 in
set_option maxRecDepth 100000 in
theorem s_X4_isTokenText_L20 {fu : Nat} {q_length : Int32} {q_items : Int32} {q_place : Int32} {q_token : Int32} {q_tokenAt : Int32} {q_tokenValue : Int32} {q_bytes : Nat → Int32} {q_words : Nat → Int32} {q_numbers : Nat → Int32} {r : Int32} {v1 : Nat} : ∀ (n : Nat) (v2 : Int32), X4_isTokenText_L20 fu q_place q_tokenAt q_bytes v1 n v2 = some r → mm_Wp mX4_isTokenText (mm_R (P_X4_isTokenText q_length q_items q_place q_token q_tokenAt q_tokenValue q_bytes q_words q_numbers r)) 0 0 20 [(0, .ref 0), (1, .ref v1), (2, .int v2)] [] (W_X4 q_length q_items q_place q_token q_tokenAt q_tokenValue q_bytes q_words q_numbers) := by
  intro n
  induction n with
  | zero =>
    intro v2 h
    rw [X4_isTokenText_L20] at h
    cases h
  | succ n hr20 =>
    intro v2 h
    rw [X4_isTokenText_L20] at h
    refine mm_iload_n 2 dX4_isTokenText_20 rfl rfl (pc' := 21) rfl ?_
    refine mm_aload_n 1 dX4_isTokenText_21 rfl rfl (pc' := 22) rfl ?_
    obtain ⟨t22, h22, h⟩ := mm_bd h
    obtain ⟨i22, hi22, hb22, ok22⟩ := ok_J0_lengthV h22
    refine mm_callStrV (As := []) (rest := [.int v2]) hi22 hb22 cV_X4_73 rfl ok22 (fun _ => rfl) ⟨rfl, rfl, Nat.le_of_ble_eq_true rfl, Nat.le_of_ble_eq_true rfl⟩ dX4_isTokenText_22 rfl rfl P_str_len (Nat.le_of_ble_eq_true rfl) ⟨Nat.le_of_ble_eq_true rfl, Nat.le_of_ble_eq_true rfl⟩ (pc' := 25) rfl ?_
    rintro rv w ⟨rfl, rfl⟩
    show mm_Wp _ _ _ _ 25 [(0, .ref 0), (1, .ref v1), (2, .int v2)] [.int t22, .int v2] (W_X4 q_length q_items q_place q_token q_tokenAt q_tokenValue q_bytes q_words q_numbers)
    clear h22
    refine mm_icmp_ge (tgt := 55) dX4_isTokenText_25 (by decide) (pc' := 28) rfl (fun c => ?_) (fun c => ?_)
    · replace h := mm_it h c
      clear c
      refine mm_iconst dX4_isTokenText_55 ki_1 (pc' := 56) rfl ?_
      have h9 := Option.some.inj h
      subst h9
      exact mm_zret rfl (by decide) dX4_isTokenText_56 ⟨rfl, rfl⟩
    · replace h := mm_if h c
      clear c
      refine mm_aload_n 1 dX4_isTokenText_28 rfl rfl (pc' := 29) rfl ?_
      refine mm_iload_n 2 dX4_isTokenText_29 rfl rfl (pc' := 30) rfl ?_
      obtain ⟨t30, h30, h⟩ := mm_bd h
      obtain ⟨i30, hi30, hb30, ok30⟩ := ok_J0_charAtV h30
      refine mm_callStrV (As := [.int v2]) (rest := []) hi30 hb30 cV_X4_78 rfl ok30 (fun _ => rfl) ⟨rfl, rfl, Nat.le_of_ble_eq_true rfl, Nat.le_of_ble_eq_true rfl⟩ dX4_isTokenText_30 rfl rfl P_str_len (Nat.le_of_ble_eq_true rfl) ⟨Nat.le_of_ble_eq_true rfl, Nat.le_of_ble_eq_true rfl⟩ (pc' := 33) rfl ?_
      rintro rv w ⟨rfl, rfl⟩
      show mm_Wp _ _ _ _ 33 [(0, .ref 0), (1, .ref v1), (2, .int v2)] [.int t30] (W_X4 q_length q_items q_place q_token q_tokenAt q_tokenValue q_bytes q_words q_numbers)
      clear h30
      refine mm_aload_n 0 dX4_isTokenText_33 rfl rfl (pc' := 34) rfl ?_
      refine mm_getf fG_X4_18 dX4_isTokenText_34 rfl rfl (pc' := 37) rfl ?_
      refine mm_aload_n 0 dX4_isTokenText_37 rfl rfl (pc' := 38) rfl ?_
      refine mm_getf fG_X4_34 dX4_isTokenText_38 rfl rfl (pc' := 41) rfl ?_
      refine mm_iload_n 2 dX4_isTokenText_41 rfl rfl (pc' := 42) rfl ?_
      refine mm_iadd dX4_isTokenText_42 (pc' := 43) rfl ?_
      obtain ⟨x43, c43, e43, h⟩ := mm_rd_of h
      refine mm_iald dX4_isTokenText_43 rfl c43 e43 (pc' := 44) rfl ?_
      clear c43 e43
      refine mm_icmp_eq (tgt := 49) dX4_isTokenText_44 (by decide) (pc' := 47) rfl (fun c => ?_) (fun c => ?_)
      · replace h := mm_it h c
        clear c
        refine mm_iinc 2 dX4_isTokenText_49 rfl ki_1 (by decide) (l' := [(2, .int (v2 + (1 : Int32))), (0, .ref 0), (1, .ref v1)]) rfl (pc' := 52) rfl ?_
        refine mm_goto (tgt := 20) dX4_isTokenText_52 (by decide) ?_
        exact mm_sub [1, 2, 0] rfl (hr20 _ h)
      · replace h := mm_if h c
        clear c
        refine mm_iconst dX4_isTokenText_47 ki_0 (pc' := 48) rfl ?_
        have h9 := Option.some.inj h
        subst h9
        exact mm_zret rfl (by decide) dX4_isTokenText_48 ⟨rfl, rfl⟩
def f_X4_isTokenText (fu : Nat) (q_place : Int32) (q_tokenAt : Int32) (q_bytes : Nat → Int32) (v1 : Nat) : Option (Int32) := (f_J0_length v1).bind fun t1 => if t1 = (q_place - q_tokenAt) then (X4_isTokenText_L20 fu q_place q_tokenAt q_bytes v1 fu (0 : Int32)) else (some ((0 : Int32)))
set_option maxHeartbeats 4000000 in
set_option maxRecDepth 100000 in
theorem ok_X4_isTokenText {fu : Nat} {q_length : Int32} {q_items : Int32} {q_place : Int32} {q_token : Int32} {q_tokenAt : Int32} {q_tokenValue : Int32} {q_bytes : Nat → Int32} {q_words : Nat → Int32} {q_numbers : Nat → Int32} {r : Int32} {v1 : Nat} (h : f_X4_isTokenText fu q_place q_tokenAt q_bytes v1 = some r) : mm_Ok mX4_isTokenText [.ref 0, .ref v1] (W_X4 q_length q_items q_place q_token q_tokenAt q_tokenValue q_bytes q_words q_numbers) (P_X4_isTokenText q_length q_items q_place q_token q_tokenAt q_tokenValue q_bytes q_words q_numbers r) := by
  rw [f_X4_isTokenText] at h
  refine mm_Ok.of pn_X4 (l := [(0, .ref 0), (1, .ref v1)]) rfl (Nat.le_of_ble_eq_true rfl) ?_
  refine mm_aload_n 1 dX4_isTokenText_0 rfl rfl (pc' := 1) rfl ?_
  obtain ⟨t1, h1, h⟩ := mm_bd h
  obtain ⟨i1, hi1, hb1, ok1⟩ := ok_J0_lengthV h1
  refine mm_callStrV (As := []) (rest := []) hi1 hb1 cV_X4_73 rfl ok1 (fun _ => rfl) ⟨rfl, rfl, Nat.le_of_ble_eq_true rfl, Nat.le_of_ble_eq_true rfl⟩ dX4_isTokenText_1 rfl rfl P_str_len (Nat.le_of_ble_eq_true rfl) ⟨Nat.le_of_ble_eq_true rfl, Nat.le_of_ble_eq_true rfl⟩ (pc' := 4) rfl ?_
  rintro rv w ⟨rfl, rfl⟩
  show mm_Wp _ _ _ _ 4 [(0, .ref 0), (1, .ref v1)] [.int t1] (W_X4 q_length q_items q_place q_token q_tokenAt q_tokenValue q_bytes q_words q_numbers)
  clear h1
  refine mm_aload_n 0 dX4_isTokenText_4 rfl rfl (pc' := 5) rfl ?_
  refine mm_getf fG_X4_28 dX4_isTokenText_5 rfl rfl (pc' := 8) rfl ?_
  refine mm_aload_n 0 dX4_isTokenText_8 rfl rfl (pc' := 9) rfl ?_
  refine mm_getf fG_X4_34 dX4_isTokenText_9 rfl rfl (pc' := 12) rfl ?_
  refine mm_isub dX4_isTokenText_12 (pc' := 13) rfl ?_
  refine mm_icmp_eq (tgt := 18) dX4_isTokenText_13 (by decide) (pc' := 16) rfl (fun c => ?_) (fun c => ?_)
  · replace h := mm_it h c
    clear c
    refine mm_iconst dX4_isTokenText_18 ki_0 (pc' := 19) rfl ?_
    refine mm_istore_n dX4_isTokenText_19 rfl (by decide) (l' := [(2, .int (0 : Int32)), (0, .ref 0), (1, .ref v1)]) rfl (pc' := 20) rfl ?_
    exact mm_sub [1, 2, 0] rfl (s_X4_isTokenText_L20  _ _ h)
  · replace h := mm_if h c
    clear c
    refine mm_iconst dX4_isTokenText_16 ki_0 (pc' := 17) rfl ?_
    have h9 := Option.some.inj h
    subst h9
    exact mm_zret rfl (by decide) dX4_isTokenText_17 ⟨rfl, rfl⟩

def P_X4_takeWord (q_length : Int32) (q_items : Int32) (q_tokenAt : Int32) (q_bytes : Nat → Int32) (q_words : Nat → Int32) (q_numbers : Nat → Int32) (r : Int32 × Int32 × Int32) : Option Value → mm_W → Prop := fun rv w => rv = none ∧ w = (W_X4 q_length q_items r.1 r.2.1 q_tokenAt r.2.2 q_bytes q_words q_numbers)
def X4_takeWord_J73 (fu : Nat) (rec46 : Int32 → Int32 → Int32 → Option (Int32 × Int32 × Int32)) (q_length : Int32) (q_place : Int32) (q_token : Int32) (q_tokenAt : Int32) (q_tokenValue : Int32) (q_bytes : Nat → Int32) (v1 : Int32)  : Option (Int32 × Int32 × Int32) := rec46 q_token q_tokenValue (v1 + (1 : Int32))
set_option maxHeartbeats 4000000 in
set_option maxRecDepth 100000 in
theorem s_X4_takeWord_J73 {fu : Nat} {q_length : Int32} {q_items : Int32} {q_place : Int32} {q_token : Int32} {q_tokenAt : Int32} {q_tokenValue : Int32} {q_bytes : Nat → Int32} {q_words : Nat → Int32} {q_numbers : Nat → Int32} {r : Int32 × Int32 × Int32} {rec46 : Int32 → Int32 → Int32 → Option (Int32 × Int32 × Int32)} {v1 : Int32} (hr46 : ∀ (z_q_token : Int32) (z_q_tokenValue : Int32) (y1 : Int32), rec46 z_q_token z_q_tokenValue y1 = some r → mm_Wp mX4_takeWord (mm_R (P_X4_takeWord q_length q_items q_tokenAt q_bytes q_words q_numbers r)) 0 0 46 [(0, .ref 0), (1, .int y1)] [] (W_X4 q_length q_items q_place z_q_token q_tokenAt z_q_tokenValue q_bytes q_words q_numbers)) (h : X4_takeWord_J73 fu rec46 q_length q_place q_token q_tokenAt q_tokenValue q_bytes v1 = some r) : mm_Wp mX4_takeWord (mm_R (P_X4_takeWord q_length q_items q_tokenAt q_bytes q_words q_numbers r)) 0 0 73 [(0, .ref 0), (1, .int v1)] [] (W_X4 q_length q_items q_place q_token q_tokenAt q_tokenValue q_bytes q_words q_numbers) := by
  rw [X4_takeWord_J73] at h
  refine mm_iinc 1 dX4_takeWord_73 rfl ki_1 (by decide) (l' := [(1, .int (v1 + (1 : Int32))), (0, .ref 0)]) rfl (pc' := 76) rfl ?_
  refine mm_goto (tgt := 46) dX4_takeWord_76 (by decide) ?_
  exact mm_sub [1, 0] rfl (hr46 _ _ _ h)
def X4_takeWord_L46 (fu : Nat)  (q_length : Int32) (q_place : Int32) (q_tokenAt : Int32) (q_bytes : Nat → Int32)  : Nat → Int32 → Int32 → Int32 → Option (Int32 × Int32 × Int32)
  | 0, _, _, _ => none
  | n + 1, q_token, q_tokenValue, v1 => if (6 : Int32) ≤ v1 then (some (q_place, q_token, q_tokenValue)) else ((f_X4_wordOf fu v1).bind fun t54 => (f_X4_isTokenText fu q_place q_tokenAt q_bytes t54).bind fun t57 => if t57 = 0 then (X4_takeWord_J73 fu (X4_takeWord_L46 fu q_length q_place q_tokenAt q_bytes n) q_length q_place q_token q_tokenAt q_tokenValue q_bytes v1) else (X4_takeWord_J73 fu (X4_takeWord_L46 fu q_length q_place q_tokenAt q_bytes n) q_length q_place (0 : Int32) q_tokenAt v1 q_bytes v1))
set_option maxHeartbeats 4000000 in
set_option maxRecDepth 100000 in
theorem s_X4_takeWord_L46 {fu : Nat} {q_length : Int32} {q_items : Int32} {q_place : Int32} {q_tokenAt : Int32} {q_bytes : Nat → Int32} {q_words : Nat → Int32} {q_numbers : Nat → Int32} {r : Int32 × Int32 × Int32} : ∀ (n : Nat) (q_token : Int32) (q_tokenValue : Int32) (v1 : Int32), X4_takeWord_L46 fu q_length q_place q_tokenAt q_bytes n q_token q_tokenValue v1 = some r → mm_Wp mX4_takeWord (mm_R (P_X4_takeWord q_length q_items q_tokenAt q_bytes q_words q_numbers r)) 0 0 46 [(0, .ref 0), (1, .int v1)] [] (W_X4 q_length q_items q_place q_token q_tokenAt q_tokenValue q_bytes q_words q_numbers) := by
  intro n
  induction n with
  | zero =>
    intro q_token q_tokenValue v1 h
    rw [X4_takeWord_L46] at h
    cases h
  | succ n hr46 =>
    intro q_token q_tokenValue v1 h
    rw [X4_takeWord_L46] at h
    refine mm_iload_n 1 dX4_takeWord_46 rfl rfl (pc' := 47) rfl ?_
    refine mm_bipush dX4_takeWord_47 kb_6 (pc' := 49) rfl ?_
    refine mm_icmp_ge (tgt := 79) dX4_takeWord_49 (by decide) (pc' := 52) rfl (fun c => ?_) (fun c => ?_)
    · replace h := mm_it h c
      clear c
      have h9 := Option.some.inj h
      subst h9
      exact mm_vret rfl dX4_takeWord_79 ⟨rfl, rfl⟩
    · replace h := mm_if h c
      clear c
      refine mm_aload_n 0 dX4_takeWord_52 rfl rfl (pc' := 53) rfl ?_
      refine mm_iload_n 1 dX4_takeWord_53 rfl rfl (pc' := 54) rfl ?_
      obtain ⟨t54, h54, h⟩ := mm_bd h
      refine mm_callS (As := [.int v1]) (rest := [.ref 0]) (av := [.int v1]) (wc := []) (is := []) cS_X4_65 (ok_X4_wordOf h54) ⟨rfl, rfl, Nat.le_of_ble_eq_true rfl, Nat.le_of_ble_eq_true rfl⟩ dX4_takeWord_54 rfl rfl rfl ⟨rfl, by decide, by decide⟩ (by rintro _ _ ⟨-, rfl⟩; rfl) (Nat.le_of_ble_eq_true rfl) ⟨Nat.le_of_ble_eq_true rfl, Nat.le_of_ble_eq_true rfl⟩ (pc' := 57) rfl ?_
      rintro rv w ⟨rfl, rfl⟩
      have e54 : mm_rn [] t54 = t54 := mm_rn_ge (wordOf_ge h54)
      show mm_Wp _ _ _ _ 57 [(0, .ref 0), (1, .int v1)] [.ref (mm_rn [] t54), .ref 0] (W_X4 q_length q_items q_place q_token q_tokenAt q_tokenValue q_bytes q_words q_numbers)
      rw [e54]
      clear h54
      obtain ⟨t57, h57, h⟩ := mm_bd h
      refine mm_call0 (As := [.ref t54]) (rest := []) cV_X4_69 (ok_X4_isTokenText h57) ⟨rfl, rfl, Nat.le_of_ble_eq_true rfl, Nat.le_of_ble_eq_true rfl⟩ dX4_takeWord_57 rfl rfl rfl rfl (by rintro _ _ ⟨-, rfl⟩; rfl) (Nat.le_of_ble_eq_true rfl) ⟨Nat.le_of_ble_eq_true rfl, Nat.le_of_ble_eq_true rfl⟩ (pc' := 60) rfl ?_
      rintro rv w ⟨rfl, rfl⟩
      show mm_Wp _ _ _ _ 60 [(0, .ref 0), (1, .int v1)] [.int t57] (W_X4 q_length q_items q_place q_token q_tokenAt q_tokenValue q_bytes q_words q_numbers)
      clear h57
      refine mm_if_eq (tgt := 73) dX4_takeWord_60 (by decide) (pc' := 63) rfl (fun c => ?_) (fun c => ?_)
      · replace h := mm_it h c
        clear c
        exact s_X4_takeWord_J73 (hr46 := hr46) h
      · replace h := mm_if h c
        clear c
        refine mm_aload_n 0 dX4_takeWord_63 rfl rfl (pc' := 64) rfl ?_
        refine mm_iconst dX4_takeWord_64 ki_0 (pc' := 65) rfl ?_
        refine mm_putf fP_X4_31 dX4_takeWord_65 rfl (Nat.le_of_ble_eq_true rfl) (fun _ => rfl) (fun _ => rfl) (ws' := (W_X4 q_length q_items q_place (0 : Int32) q_tokenAt q_tokenValue q_bytes q_words q_numbers)) rfl (pc' := 68) rfl ?_
        refine mm_aload_n 0 dX4_takeWord_68 rfl rfl (pc' := 69) rfl ?_
        refine mm_iload_n 1 dX4_takeWord_69 rfl rfl (pc' := 70) rfl ?_
        refine mm_putf fP_X4_37 dX4_takeWord_70 rfl (Nat.le_of_ble_eq_true rfl) (fun _ => rfl) (fun _ => rfl) (ws' := (W_X4 q_length q_items q_place (0 : Int32) q_tokenAt v1 q_bytes q_words q_numbers)) rfl (pc' := 73) rfl ?_
        exact s_X4_takeWord_J73 (hr46 := hr46) h
def X4_takeWord_J39 (fu : Nat)  (q_length : Int32) (q_place : Int32) (q_token : Int32) (q_tokenAt : Int32) (q_tokenValue : Int32) (q_bytes : Nat → Int32)   : Option (Int32 × Int32 × Int32) := X4_takeWord_L46 fu q_length q_place q_tokenAt q_bytes fu (4 : Int32) q_tokenValue (0 : Int32)
set_option maxHeartbeats 4000000 in
set_option maxRecDepth 100000 in
theorem s_X4_takeWord_J39 {fu : Nat} {q_length : Int32} {q_items : Int32} {q_place : Int32} {q_token : Int32} {q_tokenAt : Int32} {q_tokenValue : Int32} {q_bytes : Nat → Int32} {q_words : Nat → Int32} {q_numbers : Nat → Int32} {r : Int32 × Int32 × Int32} (h : X4_takeWord_J39 fu q_length q_place q_token q_tokenAt q_tokenValue q_bytes = some r) : mm_Wp mX4_takeWord (mm_R (P_X4_takeWord q_length q_items q_tokenAt q_bytes q_words q_numbers r)) 0 0 39 [(0, .ref 0)] [] (W_X4 q_length q_items q_place q_token q_tokenAt q_tokenValue q_bytes q_words q_numbers) := by
  rw [X4_takeWord_J39] at h
  refine mm_aload_n 0 dX4_takeWord_39 rfl rfl (pc' := 40) rfl ?_
  refine mm_iconst dX4_takeWord_40 ki_4 (pc' := 41) rfl ?_
  refine mm_putf fP_X4_31 dX4_takeWord_41 rfl (Nat.le_of_ble_eq_true rfl) (fun _ => rfl) (fun _ => rfl) (ws' := (W_X4 q_length q_items q_place (4 : Int32) q_tokenAt q_tokenValue q_bytes q_words q_numbers)) rfl (pc' := 44) rfl ?_
  refine mm_iconst dX4_takeWord_44 ki_0 (pc' := 45) rfl ?_
  refine mm_istore_n dX4_takeWord_45 rfl (by decide) (l' := [(1, .int (0 : Int32)), (0, .ref 0)]) rfl (pc' := 46) rfl ?_
  exact mm_sub [1, 0] rfl (s_X4_takeWord_L46  _ _ _ _ h)
def X4_takeWord_L0 (fu : Nat)  (q_length : Int32) (q_token : Int32) (q_tokenAt : Int32) (q_tokenValue : Int32) (q_bytes : Nat → Int32)  : Nat → Int32 → Option (Int32 × Int32 × Int32)
  | 0, _ => none
  | n + 1, q_place => if q_length ≤ q_place then (X4_takeWord_J39 fu q_length q_place q_token q_tokenAt q_tokenValue q_bytes) else (mm_rd q_bytes 200 q_place fun x19 => (f_X4_isSmallLetter fu x19).bind fun t20 => if t20 = 0 then (X4_takeWord_J39 fu q_length q_place q_token q_tokenAt q_tokenValue q_bytes) else ((X4_takeWord_L0 fu q_length q_token q_tokenAt q_tokenValue q_bytes n) (q_place + (1 : Int32))))
set_option maxHeartbeats 4000000 in
set_option maxRecDepth 100000 in
theorem s_X4_takeWord_L0 {fu : Nat} {q_length : Int32} {q_items : Int32} {q_token : Int32} {q_tokenAt : Int32} {q_tokenValue : Int32} {q_bytes : Nat → Int32} {q_words : Nat → Int32} {q_numbers : Nat → Int32} {r : Int32 × Int32 × Int32} : ∀ (n : Nat) (q_place : Int32), X4_takeWord_L0 fu q_length q_token q_tokenAt q_tokenValue q_bytes n q_place = some r → mm_Wp mX4_takeWord (mm_R (P_X4_takeWord q_length q_items q_tokenAt q_bytes q_words q_numbers r)) 0 0 0 [(0, .ref 0)] [] (W_X4 q_length q_items q_place q_token q_tokenAt q_tokenValue q_bytes q_words q_numbers) := by
  intro n
  induction n with
  | zero =>
    intro q_place h
    rw [X4_takeWord_L0] at h
    cases h
  | succ n hr0 =>
    intro q_place h
    rw [X4_takeWord_L0] at h
    refine mm_aload_n 0 dX4_takeWord_0 rfl rfl (pc' := 1) rfl ?_
    refine mm_getf fG_X4_28 dX4_takeWord_1 rfl rfl (pc' := 4) rfl ?_
    refine mm_aload_n 0 dX4_takeWord_4 rfl rfl (pc' := 5) rfl ?_
    refine mm_getf fG_X4_9 dX4_takeWord_5 rfl rfl (pc' := 8) rfl ?_
    refine mm_icmp_ge (tgt := 39) dX4_takeWord_8 (by decide) (pc' := 11) rfl (fun c => ?_) (fun c => ?_)
    · replace h := mm_it h c
      clear c
      exact s_X4_takeWord_J39  h
    · replace h := mm_if h c
      clear c
      refine mm_aload_n 0 dX4_takeWord_11 rfl rfl (pc' := 12) rfl ?_
      refine mm_getf fG_X4_18 dX4_takeWord_12 rfl rfl (pc' := 15) rfl ?_
      refine mm_aload_n 0 dX4_takeWord_15 rfl rfl (pc' := 16) rfl ?_
      refine mm_getf fG_X4_28 dX4_takeWord_16 rfl rfl (pc' := 19) rfl ?_
      obtain ⟨x19, c19, e19, h⟩ := mm_rd_of h
      refine mm_iald dX4_takeWord_19 rfl c19 e19 (pc' := 20) rfl ?_
      clear c19 e19
      obtain ⟨t20, h20, h⟩ := mm_bd h
      refine mm_callS (As := [.int x19]) (rest := []) (av := [.int x19]) (wc := []) (is := []) cS_X4_59 (ok_X4_isSmallLetter h20) ⟨rfl, rfl, Nat.le_of_ble_eq_true rfl, Nat.le_of_ble_eq_true rfl⟩ dX4_takeWord_20 rfl rfl rfl ⟨rfl, by decide, by decide⟩ (by rintro _ _ ⟨-, rfl⟩; rfl) (Nat.le_of_ble_eq_true rfl) ⟨Nat.le_of_ble_eq_true rfl, Nat.le_of_ble_eq_true rfl⟩ (pc' := 23) rfl ?_
      rintro rv w ⟨rfl, rfl⟩
      show mm_Wp _ _ _ _ 23 [(0, .ref 0)] [.int t20] (W_X4 q_length q_items q_place q_token q_tokenAt q_tokenValue q_bytes q_words q_numbers)
      clear h20
      refine mm_if_eq (tgt := 39) dX4_takeWord_23 (by decide) (pc' := 26) rfl (fun c => ?_) (fun c => ?_)
      · replace h := mm_it h c
        clear c
        exact s_X4_takeWord_J39  h
      · replace h := mm_if h c
        clear c
        refine mm_aload_n 0 dX4_takeWord_26 rfl rfl (pc' := 27) rfl ?_
        refine mm_dup dX4_takeWord_27 rfl (pc' := 28) rfl ?_
        refine mm_getf fG_X4_28 dX4_takeWord_28 rfl rfl (pc' := 31) rfl ?_
        refine mm_iconst dX4_takeWord_31 ki_1 (pc' := 32) rfl ?_
        refine mm_iadd dX4_takeWord_32 (pc' := 33) rfl ?_
        refine mm_putf fP_X4_28 dX4_takeWord_33 rfl (Nat.le_of_ble_eq_true rfl) (fun _ => rfl) (fun _ => rfl) (ws' := (W_X4 q_length q_items (q_place + (1 : Int32)) q_token q_tokenAt q_tokenValue q_bytes q_words q_numbers)) rfl (pc' := 36) rfl ?_
        refine mm_goto (tgt := 0) dX4_takeWord_36 (by decide) ?_
        exact hr0 _ h
def f_X4_takeWord (fu : Nat) (q_length : Int32) (q_place : Int32) (q_token : Int32) (q_tokenAt : Int32) (q_tokenValue : Int32) (q_bytes : Nat → Int32) : Option (Int32 × Int32 × Int32) := X4_takeWord_L0 fu q_length q_token q_tokenAt q_tokenValue q_bytes fu q_place
set_option maxHeartbeats 4000000 in
set_option maxRecDepth 100000 in
theorem ok_X4_takeWord {fu : Nat} {q_length : Int32} {q_items : Int32} {q_place : Int32} {q_token : Int32} {q_tokenAt : Int32} {q_tokenValue : Int32} {q_bytes : Nat → Int32} {q_words : Nat → Int32} {q_numbers : Nat → Int32} {r : Int32 × Int32 × Int32} (h : f_X4_takeWord fu q_length q_place q_token q_tokenAt q_tokenValue q_bytes = some r) : mm_Ok mX4_takeWord [.ref 0] (W_X4 q_length q_items q_place q_token q_tokenAt q_tokenValue q_bytes q_words q_numbers) (P_X4_takeWord q_length q_items q_tokenAt q_bytes q_words q_numbers r) := by
  rw [f_X4_takeWord] at h
  refine mm_Ok.of pn_X4 (l := [(0, .ref 0)]) rfl (Nat.le_of_ble_eq_true rfl) ?_
  exact s_X4_takeWord_L0  _ _ h

def P_X4_takeToken (q_length : Int32) (q_items : Int32) (q_bytes : Nat → Int32) (q_words : Nat → Int32) (q_numbers : Nat → Int32) (r : Int32 × Int32 × Int32 × Int32) : Option Value → mm_W → Prop := fun rv w => rv = none ∧ w = (W_X4 q_length q_items r.1 r.2.1 r.2.2.1 r.2.2.2 q_bytes q_words q_numbers)
def X4_takeToken_J129 (fu : Nat)  (q_length : Int32) (q_place : Int32) (q_token : Int32) (q_tokenAt : Int32) (q_tokenValue : Int32) (q_bytes : Nat → Int32)  (s0 : Int32) : Option (Int32 × Int32 × Int32 × Int32) := some (q_place + (1 : Int32), s0, q_tokenAt, q_tokenValue)
set_option maxHeartbeats 4000000 in
set_option maxRecDepth 100000 in
theorem s_X4_takeToken_J129 {fu : Nat} {q_length : Int32} {q_items : Int32} {q_place : Int32} {q_token : Int32} {q_tokenAt : Int32} {q_tokenValue : Int32} {q_bytes : Nat → Int32} {q_words : Nat → Int32} {q_numbers : Nat → Int32} {r : Int32 × Int32 × Int32 × Int32} {s0 : Int32} (h : X4_takeToken_J129 fu q_length q_place q_token q_tokenAt q_tokenValue q_bytes s0 = some r) : mm_Wp mX4_takeToken (mm_R (P_X4_takeToken q_length q_items q_bytes q_words q_numbers r)) 0 0 129 [(0, .ref 0)] [.int s0, .ref 0] (W_X4 q_length q_items q_place q_token q_tokenAt q_tokenValue q_bytes q_words q_numbers) := by
  rw [X4_takeToken_J129] at h
  refine mm_putf fP_X4_31 dX4_takeToken_129 rfl (Nat.le_of_ble_eq_true rfl) (fun _ => rfl) (fun _ => rfl) (ws' := (W_X4 q_length q_items q_place s0 q_tokenAt q_tokenValue q_bytes q_words q_numbers)) rfl (pc' := 132) rfl ?_
  refine mm_aload_n 0 dX4_takeToken_132 rfl rfl (pc' := 133) rfl ?_
  refine mm_dup dX4_takeToken_133 rfl (pc' := 134) rfl ?_
  refine mm_getf fG_X4_28 dX4_takeToken_134 rfl rfl (pc' := 137) rfl ?_
  refine mm_iconst dX4_takeToken_137 ki_1 (pc' := 138) rfl ?_
  refine mm_iadd dX4_takeToken_138 (pc' := 139) rfl ?_
  refine mm_putf fP_X4_28 dX4_takeToken_139 rfl (Nat.le_of_ble_eq_true rfl) (fun _ => rfl) (fun _ => rfl) (ws' := (W_X4 q_length q_items (q_place + (1 : Int32)) s0 q_tokenAt q_tokenValue q_bytes q_words q_numbers)) rfl (pc' := 142) rfl ?_
  have h9 := Option.some.inj h
  subst h9
  exact mm_vret rfl dX4_takeToken_142 ⟨rfl, rfl⟩
def X4_takeToken_J38 (fu : Nat)  (q_length : Int32) (q_place : Int32) (q_token : Int32) (q_tokenAt : Int32) (q_tokenValue : Int32) (q_bytes : Nat → Int32)   : Option (Int32 × Int32 × Int32 × Int32) := if q_place < q_length then (mm_rd q_bytes 200 q_place fun x73 => (f_X4_isFigure fu x73).bind fun t74 => if t74 = 0 then (mm_rd q_bytes 200 q_place fun x95 => (f_X4_isSmallLetter fu x95).bind fun t96 => if t96 = 0 then (mm_rd q_bytes 200 q_place fun x118 => if x118 = (59 : Int32) then (X4_takeToken_J129 fu q_length q_place q_token q_place q_tokenValue q_bytes (2 : Int32)) else (X4_takeToken_J129 fu q_length q_place q_token q_place q_tokenValue q_bytes (4 : Int32))) else ((f_X4_takeWord fu q_length q_place q_token q_place q_tokenValue q_bytes).bind fun t103 => some (t103.1, t103.2.1, q_place, t103.2.2))) else ((f_X4_takeNumber fu q_length q_place q_token q_place q_tokenValue q_bytes).bind fun t81 => some (t81.1, t81.2.1, q_place, t81.2.2))) else (some (q_place, (3 : Int32), q_place, q_tokenValue))
set_option maxHeartbeats 4000000 in
set_option maxRecDepth 100000 in
theorem s_X4_takeToken_J38 {fu : Nat} {q_length : Int32} {q_items : Int32} {q_place : Int32} {q_token : Int32} {q_tokenAt : Int32} {q_tokenValue : Int32} {q_bytes : Nat → Int32} {q_words : Nat → Int32} {q_numbers : Nat → Int32} {r : Int32 × Int32 × Int32 × Int32} (h : X4_takeToken_J38 fu q_length q_place q_token q_tokenAt q_tokenValue q_bytes = some r) : mm_Wp mX4_takeToken (mm_R (P_X4_takeToken q_length q_items q_bytes q_words q_numbers r)) 0 0 38 [(0, .ref 0)] [] (W_X4 q_length q_items q_place q_token q_tokenAt q_tokenValue q_bytes q_words q_numbers) := by
  rw [X4_takeToken_J38] at h
  refine mm_aload_n 0 dX4_takeToken_38 rfl rfl (pc' := 39) rfl ?_
  refine mm_aload_n 0 dX4_takeToken_39 rfl rfl (pc' := 40) rfl ?_
  refine mm_getf fG_X4_28 dX4_takeToken_40 rfl rfl (pc' := 43) rfl ?_
  refine mm_putf fP_X4_34 dX4_takeToken_43 rfl (Nat.le_of_ble_eq_true rfl) (fun _ => rfl) (fun _ => rfl) (ws' := (W_X4 q_length q_items q_place q_token q_place q_tokenValue q_bytes q_words q_numbers)) rfl (pc' := 46) rfl ?_
  refine mm_aload_n 0 dX4_takeToken_46 rfl rfl (pc' := 47) rfl ?_
  refine mm_getf fG_X4_28 dX4_takeToken_47 rfl rfl (pc' := 50) rfl ?_
  refine mm_aload_n 0 dX4_takeToken_50 rfl rfl (pc' := 51) rfl ?_
  refine mm_getf fG_X4_9 dX4_takeToken_51 rfl rfl (pc' := 54) rfl ?_
  refine mm_icmp_lt (tgt := 65) dX4_takeToken_54 (by decide) (pc' := 57) rfl (fun c => ?_) (fun c => ?_)
  · replace h := mm_it h c
    clear c
    refine mm_aload_n 0 dX4_takeToken_65 rfl rfl (pc' := 66) rfl ?_
    refine mm_getf fG_X4_18 dX4_takeToken_66 rfl rfl (pc' := 69) rfl ?_
    refine mm_aload_n 0 dX4_takeToken_69 rfl rfl (pc' := 70) rfl ?_
    refine mm_getf fG_X4_28 dX4_takeToken_70 rfl rfl (pc' := 73) rfl ?_
    obtain ⟨x73, c73, e73, h⟩ := mm_rd_of h
    refine mm_iald dX4_takeToken_73 rfl c73 e73 (pc' := 74) rfl ?_
    clear c73 e73
    obtain ⟨t74, h74, h⟩ := mm_bd h
    refine mm_callS (As := [.int x73]) (rest := []) (av := [.int x73]) (wc := []) (is := []) cS_X4_53 (ok_X4_isFigure h74) ⟨rfl, rfl, Nat.le_of_ble_eq_true rfl, Nat.le_of_ble_eq_true rfl⟩ dX4_takeToken_74 rfl rfl rfl ⟨rfl, by decide, by decide⟩ (by rintro _ _ ⟨-, rfl⟩; rfl) (Nat.le_of_ble_eq_true rfl) ⟨Nat.le_of_ble_eq_true rfl, Nat.le_of_ble_eq_true rfl⟩ (pc' := 77) rfl ?_
    rintro rv w ⟨rfl, rfl⟩
    show mm_Wp _ _ _ _ 77 [(0, .ref 0)] [.int t74] (W_X4 q_length q_items q_place q_token q_place q_tokenValue q_bytes q_words q_numbers)
    clear h74
    refine mm_if_eq (tgt := 87) dX4_takeToken_77 (by decide) (pc' := 80) rfl (fun c => ?_) (fun c => ?_)
    · replace h := mm_it h c
      clear c
      refine mm_aload_n 0 dX4_takeToken_87 rfl rfl (pc' := 88) rfl ?_
      refine mm_getf fG_X4_18 dX4_takeToken_88 rfl rfl (pc' := 91) rfl ?_
      refine mm_aload_n 0 dX4_takeToken_91 rfl rfl (pc' := 92) rfl ?_
      refine mm_getf fG_X4_28 dX4_takeToken_92 rfl rfl (pc' := 95) rfl ?_
      obtain ⟨x95, c95, e95, h⟩ := mm_rd_of h
      refine mm_iald dX4_takeToken_95 rfl c95 e95 (pc' := 96) rfl ?_
      clear c95 e95
      obtain ⟨t96, h96, h⟩ := mm_bd h
      refine mm_callS (As := [.int x95]) (rest := []) (av := [.int x95]) (wc := []) (is := []) cS_X4_59 (ok_X4_isSmallLetter h96) ⟨rfl, rfl, Nat.le_of_ble_eq_true rfl, Nat.le_of_ble_eq_true rfl⟩ dX4_takeToken_96 rfl rfl rfl ⟨rfl, by decide, by decide⟩ (by rintro _ _ ⟨-, rfl⟩; rfl) (Nat.le_of_ble_eq_true rfl) ⟨Nat.le_of_ble_eq_true rfl, Nat.le_of_ble_eq_true rfl⟩ (pc' := 99) rfl ?_
      rintro rv w ⟨rfl, rfl⟩
      show mm_Wp _ _ _ _ 99 [(0, .ref 0)] [.int t96] (W_X4 q_length q_items q_place q_token q_place q_tokenValue q_bytes q_words q_numbers)
      clear h96
      refine mm_if_eq (tgt := 109) dX4_takeToken_99 (by decide) (pc' := 102) rfl (fun c => ?_) (fun c => ?_)
      · replace h := mm_it h c
        clear c
        refine mm_aload_n 0 dX4_takeToken_109 rfl rfl (pc' := 110) rfl ?_
        refine mm_aload_n 0 dX4_takeToken_110 rfl rfl (pc' := 111) rfl ?_
        refine mm_getf fG_X4_18 dX4_takeToken_111 rfl rfl (pc' := 114) rfl ?_
        refine mm_aload_n 0 dX4_takeToken_114 rfl rfl (pc' := 115) rfl ?_
        refine mm_getf fG_X4_28 dX4_takeToken_115 rfl rfl (pc' := 118) rfl ?_
        obtain ⟨x118, c118, e118, h⟩ := mm_rd_of h
        refine mm_iald dX4_takeToken_118 rfl c118 e118 (pc' := 119) rfl ?_
        clear c118 e118
        refine mm_bipush dX4_takeToken_119 kb_59 (pc' := 121) rfl ?_
        refine mm_icmp_ne (tgt := 128) dX4_takeToken_121 (by decide) (pc' := 124) rfl (fun c => ?_) (fun c => ?_)
        · replace h := mm_if h c
          clear c
          refine mm_iconst dX4_takeToken_128 ki_4 (pc' := 129) rfl ?_
          exact s_X4_takeToken_J129  h
        · replace h := mm_it h c
          clear c
          refine mm_iconst dX4_takeToken_124 ki_2 (pc' := 125) rfl ?_
          refine mm_goto (tgt := 129) dX4_takeToken_125 (by decide) ?_
          exact s_X4_takeToken_J129  h
      · replace h := mm_if h c
        clear c
        refine mm_aload_n 0 dX4_takeToken_102 rfl rfl (pc' := 103) rfl ?_
        obtain ⟨t103, h103, h⟩ := mm_bd h
        refine mm_call0 (As := []) (rest := []) cV_X4_62 (ok_X4_takeWord h103) ⟨rfl, rfl, Nat.le_of_ble_eq_true rfl, Nat.le_of_ble_eq_true rfl⟩ dX4_takeToken_103 rfl rfl rfl rfl (by rintro _ _ ⟨-, rfl⟩; rfl) (Nat.le_of_ble_eq_true rfl) ⟨Nat.le_of_ble_eq_true rfl, Nat.le_of_ble_eq_true rfl⟩ (pc' := 106) rfl ?_
        rintro rv w ⟨rfl, rfl⟩
        show mm_Wp _ _ _ _ 106 [(0, .ref 0)] [] (W_X4 q_length q_items t103.1 t103.2.1 q_place t103.2.2 q_bytes q_words q_numbers)
        clear h103
        refine mm_goto (tgt := 142) dX4_takeToken_106 (by decide) ?_
        have h9 := Option.some.inj h
        subst h9
        exact mm_vret rfl dX4_takeToken_142 ⟨rfl, rfl⟩
    · replace h := mm_if h c
      clear c
      refine mm_aload_n 0 dX4_takeToken_80 rfl rfl (pc' := 81) rfl ?_
      obtain ⟨t81, h81, h⟩ := mm_bd h
      refine mm_call0 (As := []) (rest := []) cV_X4_56 (ok_X4_takeNumber h81) ⟨rfl, rfl, Nat.le_of_ble_eq_true rfl, Nat.le_of_ble_eq_true rfl⟩ dX4_takeToken_81 rfl rfl rfl rfl (by rintro _ _ ⟨-, rfl⟩; rfl) (Nat.le_of_ble_eq_true rfl) ⟨Nat.le_of_ble_eq_true rfl, Nat.le_of_ble_eq_true rfl⟩ (pc' := 84) rfl ?_
      rintro rv w ⟨rfl, rfl⟩
      show mm_Wp _ _ _ _ 84 [(0, .ref 0)] [] (W_X4 q_length q_items t81.1 t81.2.1 q_place t81.2.2 q_bytes q_words q_numbers)
      clear h81
      refine mm_goto (tgt := 142) dX4_takeToken_84 (by decide) ?_
      have h9 := Option.some.inj h
      subst h9
      exact mm_vret rfl dX4_takeToken_142 ⟨rfl, rfl⟩
  · replace h := mm_if h c
    clear c
    refine mm_aload_n 0 dX4_takeToken_57 rfl rfl (pc' := 58) rfl ?_
    refine mm_iconst dX4_takeToken_58 ki_3 (pc' := 59) rfl ?_
    refine mm_putf fP_X4_31 dX4_takeToken_59 rfl (Nat.le_of_ble_eq_true rfl) (fun _ => rfl) (fun _ => rfl) (ws' := (W_X4 q_length q_items q_place (3 : Int32) q_place q_tokenValue q_bytes q_words q_numbers)) rfl (pc' := 62) rfl ?_
    refine mm_goto (tgt := 142) dX4_takeToken_62 (by decide) ?_
    have h9 := Option.some.inj h
    subst h9
    exact mm_vret rfl dX4_takeToken_142 ⟨rfl, rfl⟩
def X4_takeToken_L0 (fu : Nat)  (q_length : Int32) (q_token : Int32) (q_tokenAt : Int32) (q_tokenValue : Int32) (q_bytes : Nat → Int32)  : Nat → Int32 → Option (Int32 × Int32 × Int32 × Int32)
  | 0, _ => none
  | n + 1, q_place => if q_length ≤ q_place then (X4_takeToken_J38 fu q_length q_place q_token q_tokenAt q_tokenValue q_bytes) else (mm_rd q_bytes 200 q_place fun x19 => if x19 = (32 : Int32) then ((X4_takeToken_L0 fu q_length q_token q_tokenAt q_tokenValue q_bytes n) (q_place + (1 : Int32))) else (X4_takeToken_J38 fu q_length q_place q_token q_tokenAt q_tokenValue q_bytes))
set_option maxHeartbeats 4000000 in
set_option maxRecDepth 100000 in
theorem s_X4_takeToken_L0 {fu : Nat} {q_length : Int32} {q_items : Int32} {q_token : Int32} {q_tokenAt : Int32} {q_tokenValue : Int32} {q_bytes : Nat → Int32} {q_words : Nat → Int32} {q_numbers : Nat → Int32} {r : Int32 × Int32 × Int32 × Int32} : ∀ (n : Nat) (q_place : Int32), X4_takeToken_L0 fu q_length q_token q_tokenAt q_tokenValue q_bytes n q_place = some r → mm_Wp mX4_takeToken (mm_R (P_X4_takeToken q_length q_items q_bytes q_words q_numbers r)) 0 0 0 [(0, .ref 0)] [] (W_X4 q_length q_items q_place q_token q_tokenAt q_tokenValue q_bytes q_words q_numbers) := by
  intro n
  induction n with
  | zero =>
    intro q_place h
    rw [X4_takeToken_L0] at h
    cases h
  | succ n hr0 =>
    intro q_place h
    rw [X4_takeToken_L0] at h
    refine mm_aload_n 0 dX4_takeToken_0 rfl rfl (pc' := 1) rfl ?_
    refine mm_getf fG_X4_28 dX4_takeToken_1 rfl rfl (pc' := 4) rfl ?_
    refine mm_aload_n 0 dX4_takeToken_4 rfl rfl (pc' := 5) rfl ?_
    refine mm_getf fG_X4_9 dX4_takeToken_5 rfl rfl (pc' := 8) rfl ?_
    refine mm_icmp_ge (tgt := 38) dX4_takeToken_8 (by decide) (pc' := 11) rfl (fun c => ?_) (fun c => ?_)
    · replace h := mm_it h c
      clear c
      exact s_X4_takeToken_J38  h
    · replace h := mm_if h c
      clear c
      refine mm_aload_n 0 dX4_takeToken_11 rfl rfl (pc' := 12) rfl ?_
      refine mm_getf fG_X4_18 dX4_takeToken_12 rfl rfl (pc' := 15) rfl ?_
      refine mm_aload_n 0 dX4_takeToken_15 rfl rfl (pc' := 16) rfl ?_
      refine mm_getf fG_X4_28 dX4_takeToken_16 rfl rfl (pc' := 19) rfl ?_
      obtain ⟨x19, c19, e19, h⟩ := mm_rd_of h
      refine mm_iald dX4_takeToken_19 rfl c19 e19 (pc' := 20) rfl ?_
      clear c19 e19
      refine mm_bipush dX4_takeToken_20 kb_32 (pc' := 22) rfl ?_
      refine mm_icmp_ne (tgt := 38) dX4_takeToken_22 (by decide) (pc' := 25) rfl (fun c => ?_) (fun c => ?_)
      · replace h := mm_if h c
        clear c
        exact s_X4_takeToken_J38  h
      · replace h := mm_it h c
        clear c
        refine mm_aload_n 0 dX4_takeToken_25 rfl rfl (pc' := 26) rfl ?_
        refine mm_dup dX4_takeToken_26 rfl (pc' := 27) rfl ?_
        refine mm_getf fG_X4_28 dX4_takeToken_27 rfl rfl (pc' := 30) rfl ?_
        refine mm_iconst dX4_takeToken_30 ki_1 (pc' := 31) rfl ?_
        refine mm_iadd dX4_takeToken_31 (pc' := 32) rfl ?_
        refine mm_putf fP_X4_28 dX4_takeToken_32 rfl (Nat.le_of_ble_eq_true rfl) (fun _ => rfl) (fun _ => rfl) (ws' := (W_X4 q_length q_items (q_place + (1 : Int32)) q_token q_tokenAt q_tokenValue q_bytes q_words q_numbers)) rfl (pc' := 35) rfl ?_
        refine mm_goto (tgt := 0) dX4_takeToken_35 (by decide) ?_
        exact hr0 _ h
def f_X4_takeToken (fu : Nat) (q_length : Int32) (q_place : Int32) (q_token : Int32) (q_tokenAt : Int32) (q_tokenValue : Int32) (q_bytes : Nat → Int32) : Option (Int32 × Int32 × Int32 × Int32) := X4_takeToken_L0 fu q_length q_token q_tokenAt q_tokenValue q_bytes fu q_place
set_option maxHeartbeats 4000000 in
set_option maxRecDepth 100000 in
theorem ok_X4_takeToken {fu : Nat} {q_length : Int32} {q_items : Int32} {q_place : Int32} {q_token : Int32} {q_tokenAt : Int32} {q_tokenValue : Int32} {q_bytes : Nat → Int32} {q_words : Nat → Int32} {q_numbers : Nat → Int32} {r : Int32 × Int32 × Int32 × Int32} (h : f_X4_takeToken fu q_length q_place q_token q_tokenAt q_tokenValue q_bytes = some r) : mm_Ok mX4_takeToken [.ref 0] (W_X4 q_length q_items q_place q_token q_tokenAt q_tokenValue q_bytes q_words q_numbers) (P_X4_takeToken q_length q_items q_bytes q_words q_numbers r) := by
  rw [f_X4_takeToken] at h
  refine mm_Ok.of pn_X4 (l := [(0, .ref 0)]) rfl (Nat.le_of_ble_eq_true rfl) ?_
  exact s_X4_takeToken_L0  _ _ h

def P_X4_numbersOf  (r : Int32) : Option Value → mm_W → Prop := fun rv w => rv = some (.int r) ∧ w = []
def f_X4_numbersOf (fu : Nat) (v0 : Int32) : Option (Int32) := if v0 = (0 : Int32) then (some ((2 : Int32))) else (if v0 = (3 : Int32) then (some ((1 : Int32))) else (if v0 = (5 : Int32) then (some ((1 : Int32))) else (some ((3 : Int32)))))
set_option maxHeartbeats 4000000 in
set_option maxRecDepth 100000 in
theorem ok_X4_numbersOf {fu : Nat} {r : Int32} {v0 : Int32} (h : f_X4_numbersOf fu v0 = some r) : mm_Ok mX4_numbersOf [.int v0] [] (P_X4_numbersOf r) := by
  rw [f_X4_numbersOf] at h
  refine mm_Ok.of pn_X4 (l := [(0, .int v0)]) rfl (Nat.le_of_ble_eq_true rfl) ?_
  refine mm_iload_n 0 dX4_numbersOf_0 rfl rfl (pc' := 1) rfl ?_
  by_cases c0 : v0 = (0 : Int32)
  · replace h := mm_it h c0
    refine mm_lookup (off := 35) (tgt := 36) dX4_numbersOf_1 (by decide) (by rw [c0]; decide) (by decide) ?_
    clear c0
    refine mm_iconst dX4_numbersOf_36 ki_2 (pc' := 37) rfl ?_
    have h9 := Option.some.inj h
    subst h9
    exact mm_iret rfl dX4_numbersOf_37 ⟨rfl, rfl⟩
  replace h := mm_if h c0
  by_cases c3 : v0 = (3 : Int32)
  · replace h := mm_it h c3
    refine mm_lookup (off := 37) (tgt := 38) dX4_numbersOf_1 (by decide) (by rw [c3]; decide) (by decide) ?_
    clear c0 c3
    refine mm_iconst dX4_numbersOf_38 ki_1 (pc' := 39) rfl ?_
    have h9 := Option.some.inj h
    subst h9
    exact mm_iret rfl dX4_numbersOf_39 ⟨rfl, rfl⟩
  replace h := mm_if h c3
  by_cases c5 : v0 = (5 : Int32)
  · replace h := mm_it h c5
    refine mm_lookup (off := 39) (tgt := 40) dX4_numbersOf_1 (by decide) (by rw [c5]; decide) (by decide) ?_
    clear c0 c3 c5
    refine mm_iconst dX4_numbersOf_40 ki_1 (pc' := 41) rfl ?_
    have h9 := Option.some.inj h
    subst h9
    exact mm_iret rfl dX4_numbersOf_41 ⟨rfl, rfl⟩
  replace h := mm_if h c5
  refine mm_lookup (off := 41) (tgt := 42) dX4_numbersOf_1 (by decide) (mm_lk_out c0 c3 c5) (by decide) ?_
  clear c0 c3 c5
  refine mm_iconst dX4_numbersOf_42 ki_3 (pc' := 43) rfl ?_
  have h9 := Option.some.inj h
  subst h9
  exact mm_iret rfl dX4_numbersOf_43 ⟨rfl, rfl⟩

def P_X4_takeItem (q_length : Int32) (q_items : Int32) (q_bytes : Nat → Int32) (r : Int32 × Int32 × Int32 × Int32 × Int32 × (Nat → Int32) × (Nat → Int32)) : Option Value → mm_W → Prop := fun rv w => rv = some (.int r.1) ∧ w = (W_X4 q_length q_items r.2.1 r.2.2.1 r.2.2.2.1 r.2.2.2.2.1 q_bytes r.2.2.2.2.2.1 r.2.2.2.2.2.2)
def X4_takeItem_L12 (fu : Nat)  (q_length : Int32) (q_items : Int32) (q_bytes : Nat → Int32) (q_words : Nat → Int32) (v1 : Int32) : Nat → Int32 → Int32 → Int32 → Int32 → (Nat → Int32) → Int32 → Option (Int32 × Int32 × Int32 × Int32 × Int32 × (Nat → Int32) × (Nat → Int32))
  | 0, _, _, _, _, _, _ => none
  | n + 1, q_place, q_token, q_tokenAt, q_tokenValue, q_numbers, v2 => (f_X4_numbersOf fu v1).bind fun t14 => if t14 ≤ v2 then ((f_X4_takeToken fu q_length q_place q_token q_tokenAt q_tokenValue q_bytes).bind fun t58 => if t58.2.1 = (2 : Int32) then (some ((1 : Int32), t58.1, t58.2.1, t58.2.2.1, t58.2.2.2, q_words, q_numbers)) else (some ((0 : Int32), t58.1, t58.2.1, t58.2.2.1, t58.2.2.2, q_words, q_numbers))) else ((f_X4_takeToken fu q_length q_place q_token q_tokenAt q_tokenValue q_bytes).bind fun t21 => if t21.2.1 = (1 : Int32) then (mm_ck 300 ((q_items * (3 : Int32)) + v2) ((X4_takeItem_L12 fu q_length q_items q_bytes q_words v1 n) t21.1 t21.2.1 t21.2.2.1 t21.2.2.2 (upd q_numbers ((q_items * (3 : Int32)) + v2).toNatClampNeg t21.2.2.2) (v2 + (1 : Int32)))) else (some ((0 : Int32), t21.1, t21.2.1, t21.2.2.1, t21.2.2.2, q_words, q_numbers)))
set_option maxHeartbeats 4000000 in
set_option maxRecDepth 100000 in
theorem s_X4_takeItem_L12 {fu : Nat} {q_length : Int32} {q_items : Int32} {q_bytes : Nat → Int32} {q_words : Nat → Int32} {r : Int32 × Int32 × Int32 × Int32 × Int32 × (Nat → Int32) × (Nat → Int32)} {v1 : Int32} : ∀ (n : Nat) (q_place : Int32) (q_token : Int32) (q_tokenAt : Int32) (q_tokenValue : Int32) (q_numbers : Nat → Int32) (v2 : Int32), X4_takeItem_L12 fu q_length q_items q_bytes q_words v1 n q_place q_token q_tokenAt q_tokenValue q_numbers v2 = some r → mm_Wp mX4_takeItem (mm_R (P_X4_takeItem q_length q_items q_bytes r)) 0 0 12 [(0, .ref 0), (1, .int v1), (2, .int v2)] [] (W_X4 q_length q_items q_place q_token q_tokenAt q_tokenValue q_bytes q_words q_numbers) := by
  intro n
  induction n with
  | zero =>
    intro q_place q_token q_tokenAt q_tokenValue q_numbers v2 h
    rw [X4_takeItem_L12] at h
    cases h
  | succ n hr12 =>
    intro q_place q_token q_tokenAt q_tokenValue q_numbers v2 h
    rw [X4_takeItem_L12] at h
    refine mm_iload_n 2 dX4_takeItem_12 rfl rfl (pc' := 13) rfl ?_
    refine mm_iload_n 1 dX4_takeItem_13 rfl rfl (pc' := 14) rfl ?_
    obtain ⟨t14, h14, h⟩ := mm_bd h
    refine mm_callS (As := [.int v1]) (rest := [.int v2]) (av := [.int v1]) (wc := []) (is := []) cS_X4_49 (ok_X4_numbersOf h14) ⟨rfl, rfl, Nat.le_of_ble_eq_true rfl, Nat.le_of_ble_eq_true rfl⟩ dX4_takeItem_14 rfl rfl rfl ⟨rfl, by decide, by decide⟩ (by rintro _ _ ⟨-, rfl⟩; rfl) (Nat.le_of_ble_eq_true rfl) ⟨Nat.le_of_ble_eq_true rfl, Nat.le_of_ble_eq_true rfl⟩ (pc' := 17) rfl ?_
    rintro rv w ⟨rfl, rfl⟩
    show mm_Wp _ _ _ _ 17 [(0, .ref 0), (1, .int v1), (2, .int v2)] [.int t14, .int v2] (W_X4 q_length q_items q_place q_token q_tokenAt q_tokenValue q_bytes q_words q_numbers)
    clear h14
    refine mm_icmp_ge (tgt := 57) dX4_takeItem_17 (by decide) (pc' := 20) rfl (fun c => ?_) (fun c => ?_)
    · replace h := mm_it h c
      clear c
      refine mm_aload_n 0 dX4_takeItem_57 rfl rfl (pc' := 58) rfl ?_
      obtain ⟨t58, h58, h⟩ := mm_bd h
      refine mm_call0 (As := []) (rest := []) cV_X4_42 (ok_X4_takeToken h58) ⟨rfl, rfl, Nat.le_of_ble_eq_true rfl, Nat.le_of_ble_eq_true rfl⟩ dX4_takeItem_58 rfl rfl rfl rfl (by rintro _ _ ⟨-, rfl⟩; rfl) (Nat.le_of_ble_eq_true rfl) ⟨Nat.le_of_ble_eq_true rfl, Nat.le_of_ble_eq_true rfl⟩ (pc' := 61) rfl ?_
      rintro rv w ⟨rfl, rfl⟩
      show mm_Wp _ _ _ _ 61 [(0, .ref 0), (1, .int v1), (2, .int v2)] [] (W_X4 q_length q_items t58.1 t58.2.1 t58.2.2.1 t58.2.2.2 q_bytes q_words q_numbers)
      clear h58
      refine mm_aload_n 0 dX4_takeItem_61 rfl rfl (pc' := 62) rfl ?_
      refine mm_getf fG_X4_31 dX4_takeItem_62 rfl rfl (pc' := 65) rfl ?_
      refine mm_iconst dX4_takeItem_65 ki_2 (pc' := 66) rfl ?_
      refine mm_icmp_ne (tgt := 73) dX4_takeItem_66 (by decide) (pc' := 69) rfl (fun c => ?_) (fun c => ?_)
      · replace h := mm_if h c
        clear c
        refine mm_iconst dX4_takeItem_73 ki_0 (pc' := 74) rfl ?_
        have h9 := Option.some.inj h
        subst h9
        exact mm_zret rfl (by decide) dX4_takeItem_74 ⟨rfl, rfl⟩
      · replace h := mm_it h c
        clear c
        refine mm_iconst dX4_takeItem_69 ki_1 (pc' := 70) rfl ?_
        refine mm_goto (tgt := 74) dX4_takeItem_70 (by decide) ?_
        have h9 := Option.some.inj h
        subst h9
        exact mm_zret rfl (by decide) dX4_takeItem_74 ⟨rfl, rfl⟩
    · replace h := mm_if h c
      clear c
      refine mm_aload_n 0 dX4_takeItem_20 rfl rfl (pc' := 21) rfl ?_
      obtain ⟨t21, h21, h⟩ := mm_bd h
      refine mm_call0 (As := []) (rest := []) cV_X4_42 (ok_X4_takeToken h21) ⟨rfl, rfl, Nat.le_of_ble_eq_true rfl, Nat.le_of_ble_eq_true rfl⟩ dX4_takeItem_21 rfl rfl rfl rfl (by rintro _ _ ⟨-, rfl⟩; rfl) (Nat.le_of_ble_eq_true rfl) ⟨Nat.le_of_ble_eq_true rfl, Nat.le_of_ble_eq_true rfl⟩ (pc' := 24) rfl ?_
      rintro rv w ⟨rfl, rfl⟩
      show mm_Wp _ _ _ _ 24 [(0, .ref 0), (1, .int v1), (2, .int v2)] [] (W_X4 q_length q_items t21.1 t21.2.1 t21.2.2.1 t21.2.2.2 q_bytes q_words q_numbers)
      clear h21
      refine mm_aload_n 0 dX4_takeItem_24 rfl rfl (pc' := 25) rfl ?_
      refine mm_getf fG_X4_31 dX4_takeItem_25 rfl rfl (pc' := 28) rfl ?_
      refine mm_iconst dX4_takeItem_28 ki_1 (pc' := 29) rfl ?_
      refine mm_icmp_eq (tgt := 34) dX4_takeItem_29 (by decide) (pc' := 32) rfl (fun c => ?_) (fun c => ?_)
      · replace h := mm_it h c
        clear c
        refine mm_aload_n 0 dX4_takeItem_34 rfl rfl (pc' := 35) rfl ?_
        refine mm_getf fG_X4_25 dX4_takeItem_35 rfl rfl (pc' := 38) rfl ?_
        refine mm_aload_n 0 dX4_takeItem_38 rfl rfl (pc' := 39) rfl ?_
        refine mm_getf fG_X4_15 dX4_takeItem_39 rfl rfl (pc' := 42) rfl ?_
        refine mm_iconst dX4_takeItem_42 ki_3 (pc' := 43) rfl ?_
        refine mm_imul dX4_takeItem_43 (pc' := 44) rfl ?_
        refine mm_iload_n 2 dX4_takeItem_44 rfl rfl (pc' := 45) rfl ?_
        refine mm_iadd dX4_takeItem_45 (pc' := 46) rfl ?_
        refine mm_aload_n 0 dX4_takeItem_46 rfl rfl (pc' := 47) rfl ?_
        refine mm_getf fG_X4_37 dX4_takeItem_47 rfl rfl (pc' := 50) rfl ?_
        obtain ⟨c50, h⟩ := mm_ck_of h
        refine mm_iast dX4_takeItem_50 rfl c50 rfl (ws' := (W_X4 q_length q_items t21.1 t21.2.1 t21.2.2.1 t21.2.2.2 q_bytes q_words (upd q_numbers ((q_items * (3 : Int32)) + v2).toNatClampNeg t21.2.2.2))) rfl (pc' := 51) rfl ?_
        clear c50
        refine mm_iinc 2 dX4_takeItem_51 rfl ki_1 (by decide) (l' := [(2, .int (v2 + (1 : Int32))), (0, .ref 0), (1, .int v1)]) rfl (pc' := 54) rfl ?_
        refine mm_goto (tgt := 12) dX4_takeItem_54 (by decide) ?_
        exact mm_sub [1, 2, 0] rfl (hr12 _ _ _ _ _ _ h)
      · replace h := mm_if h c
        clear c
        refine mm_iconst dX4_takeItem_32 ki_0 (pc' := 33) rfl ?_
        have h9 := Option.some.inj h
        subst h9
        exact mm_zret rfl (by decide) dX4_takeItem_33 ⟨rfl, rfl⟩
def f_X4_takeItem (fu : Nat) (q_length : Int32) (q_items : Int32) (q_place : Int32) (q_token : Int32) (q_tokenAt : Int32) (q_tokenValue : Int32) (q_bytes : Nat → Int32) (q_words : Nat → Int32) (q_numbers : Nat → Int32) (v1 : Int32) : Option (Int32 × Int32 × Int32 × Int32 × Int32 × (Nat → Int32) × (Nat → Int32)) := mm_ck 100 q_items (X4_takeItem_L12 fu q_length q_items q_bytes (upd q_words q_items.toNatClampNeg v1) v1 fu q_place q_token q_tokenAt q_tokenValue q_numbers (0 : Int32))
set_option maxHeartbeats 4000000 in
set_option maxRecDepth 100000 in
theorem ok_X4_takeItem {fu : Nat} {q_length : Int32} {q_items : Int32} {q_place : Int32} {q_token : Int32} {q_tokenAt : Int32} {q_tokenValue : Int32} {q_bytes : Nat → Int32} {q_words : Nat → Int32} {q_numbers : Nat → Int32} {r : Int32 × Int32 × Int32 × Int32 × Int32 × (Nat → Int32) × (Nat → Int32)} {v1 : Int32} (h : f_X4_takeItem fu q_length q_items q_place q_token q_tokenAt q_tokenValue q_bytes q_words q_numbers v1 = some r) : mm_Ok mX4_takeItem [.ref 0, .int v1] (W_X4 q_length q_items q_place q_token q_tokenAt q_tokenValue q_bytes q_words q_numbers) (P_X4_takeItem q_length q_items q_bytes r) := by
  rw [f_X4_takeItem] at h
  refine mm_Ok.of pn_X4 (l := [(0, .ref 0), (1, .int v1)]) rfl (Nat.le_of_ble_eq_true rfl) ?_
  refine mm_aload_n 0 dX4_takeItem_0 rfl rfl (pc' := 1) rfl ?_
  refine mm_getf fG_X4_22 dX4_takeItem_1 rfl rfl (pc' := 4) rfl ?_
  refine mm_aload_n 0 dX4_takeItem_4 rfl rfl (pc' := 5) rfl ?_
  refine mm_getf fG_X4_15 dX4_takeItem_5 rfl rfl (pc' := 8) rfl ?_
  refine mm_iload_n 1 dX4_takeItem_8 rfl rfl (pc' := 9) rfl ?_
  obtain ⟨c9, h⟩ := mm_ck_of h
  refine mm_iast dX4_takeItem_9 rfl c9 rfl (ws' := (W_X4 q_length q_items q_place q_token q_tokenAt q_tokenValue q_bytes (upd q_words q_items.toNatClampNeg v1) q_numbers)) rfl (pc' := 10) rfl ?_
  clear c9
  refine mm_iconst dX4_takeItem_10 ki_0 (pc' := 11) rfl ?_
  refine mm_istore_n dX4_takeItem_11 rfl (by decide) (l' := [(2, .int (0 : Int32)), (0, .ref 0), (1, .int v1)]) rfl (pc' := 12) rfl ?_
  exact mm_sub [1, 2, 0] rfl (s_X4_takeItem_L12  _ _ _ _ _ _ _ h)

def P_X4_parse (q_length : Int32) (q_bytes : Nat → Int32) (r : Int32 × Int32 × Int32 × Int32 × Int32 × Int32 × (Nat → Int32) × (Nat → Int32)) : Option Value → mm_W → Prop := fun rv w => rv = some (.int r.1) ∧ w = (W_X4 q_length r.2.1 r.2.2.1 r.2.2.2.1 r.2.2.2.2.1 r.2.2.2.2.2.1 q_bytes r.2.2.2.2.2.2.1 r.2.2.2.2.2.2.2)
def X4_parse_L10 (fu : Nat)  (q_length : Int32) (q_bytes : Nat → Int32)  : Nat → Int32 → Int32 → Int32 → Int32 → Int32 → (Nat → Int32) → (Nat → Int32) → Option (Int32 × Int32 × Int32 × Int32 × Int32 × Int32 × (Nat → Int32) × (Nat → Int32))
  | 0, _, _, _, _, _, _, _ => none
  | n + 1, q_items, q_place, q_token, q_tokenAt, q_tokenValue, q_words, q_numbers => if (100 : Int32) ≤ q_items then ((f_X4_takeToken fu q_length q_place q_token q_tokenAt q_tokenValue q_bytes).bind fun t75 => if t75.2.1 = (3 : Int32) then (some ((-1 : Int32), q_items, t75.1, t75.2.1, t75.2.2.1, t75.2.2.2, q_words, q_numbers)) else (some (t75.2.2.1, q_items, t75.1, t75.2.1, t75.2.2.1, t75.2.2.2, q_words, q_numbers))) else ((f_X4_takeToken fu q_length q_place q_token q_tokenAt q_tokenValue q_bytes).bind fun t20 => if t20.2.1 = (3 : Int32) then (some ((-1 : Int32), q_items, t20.1, t20.2.1, t20.2.2.1, t20.2.2.2, q_words, q_numbers)) else (if t20.2.1 = 0 then ((f_X4_takeItem fu q_length q_items t20.1 t20.2.1 t20.2.2.1 t20.2.2.2 q_bytes q_words q_numbers t20.2.2.2).bind fun t50 => if t50.1 = 0 then (some (t50.2.2.2.1, q_items, t50.2.1, t50.2.2.1, t50.2.2.2.1, t50.2.2.2.2.1, t50.2.2.2.2.2.1, t50.2.2.2.2.2.2)) else ((X4_parse_L10 fu q_length q_bytes n) (q_items + (1 : Int32)) t50.2.1 t50.2.2.1 t50.2.2.2.1 t50.2.2.2.2.1 t50.2.2.2.2.2.1 t50.2.2.2.2.2.2)) else (some (t20.2.2.1, q_items, t20.1, t20.2.1, t20.2.2.1, t20.2.2.2, q_words, q_numbers))))
set_option maxHeartbeats 4000000 in
set_option maxRecDepth 100000 in
theorem s_X4_parse_L10 {fu : Nat} {q_length : Int32} {q_bytes : Nat → Int32} {r : Int32 × Int32 × Int32 × Int32 × Int32 × Int32 × (Nat → Int32) × (Nat → Int32)} : ∀ (n : Nat) (q_items : Int32) (q_place : Int32) (q_token : Int32) (q_tokenAt : Int32) (q_tokenValue : Int32) (q_words : Nat → Int32) (q_numbers : Nat → Int32), X4_parse_L10 fu q_length q_bytes n q_items q_place q_token q_tokenAt q_tokenValue q_words q_numbers = some r → mm_Wp mX4_parse (mm_R (P_X4_parse q_length q_bytes r)) 0 0 10 [(0, .ref 0)] [] (W_X4 q_length q_items q_place q_token q_tokenAt q_tokenValue q_bytes q_words q_numbers) := by
  intro n
  induction n with
  | zero =>
    intro q_items q_place q_token q_tokenAt q_tokenValue q_words q_numbers h
    rw [X4_parse_L10] at h
    cases h
  | succ n hr10 =>
    intro q_items q_place q_token q_tokenAt q_tokenValue q_words q_numbers h
    rw [X4_parse_L10] at h
    refine mm_aload_n 0 dX4_parse_10 rfl rfl (pc' := 11) rfl ?_
    refine mm_getf fG_X4_15 dX4_parse_11 rfl rfl (pc' := 14) rfl ?_
    refine mm_bipush dX4_parse_14 kb_100 (pc' := 16) rfl ?_
    refine mm_icmp_ge (tgt := 74) dX4_parse_16 (by decide) (pc' := 19) rfl (fun c => ?_) (fun c => ?_)
    · replace h := mm_it h c
      clear c
      refine mm_aload_n 0 dX4_parse_74 rfl rfl (pc' := 75) rfl ?_
      obtain ⟨t75, h75, h⟩ := mm_bd h
      refine mm_call0 (As := []) (rest := []) cV_X4_42 (ok_X4_takeToken h75) ⟨rfl, rfl, Nat.le_of_ble_eq_true rfl, Nat.le_of_ble_eq_true rfl⟩ dX4_parse_75 rfl rfl rfl rfl (by rintro _ _ ⟨-, rfl⟩; rfl) (Nat.le_of_ble_eq_true rfl) ⟨Nat.le_of_ble_eq_true rfl, Nat.le_of_ble_eq_true rfl⟩ (pc' := 78) rfl ?_
      rintro rv w ⟨rfl, rfl⟩
      show mm_Wp _ _ _ _ 78 [(0, .ref 0)] [] (W_X4 q_length q_items t75.1 t75.2.1 t75.2.2.1 t75.2.2.2 q_bytes q_words q_numbers)
      clear h75
      refine mm_aload_n 0 dX4_parse_78 rfl rfl (pc' := 79) rfl ?_
      refine mm_getf fG_X4_31 dX4_parse_79 rfl rfl (pc' := 82) rfl ?_
      refine mm_iconst dX4_parse_82 ki_3 (pc' := 83) rfl ?_
      refine mm_icmp_ne (tgt := 90) dX4_parse_83 (by decide) (pc' := 86) rfl (fun c => ?_) (fun c => ?_)
      · replace h := mm_if h c
        clear c
        refine mm_aload_n 0 dX4_parse_90 rfl rfl (pc' := 91) rfl ?_
        refine mm_getf fG_X4_34 dX4_parse_91 rfl rfl (pc' := 94) rfl ?_
        have h9 := Option.some.inj h
        subst h9
        exact mm_iret rfl dX4_parse_94 ⟨rfl, rfl⟩
      · replace h := mm_it h c
        clear c
        refine mm_iconst dX4_parse_86 ki_m1 (pc' := 87) rfl ?_
        refine mm_goto (tgt := 94) dX4_parse_87 (by decide) ?_
        have h9 := Option.some.inj h
        subst h9
        exact mm_iret rfl dX4_parse_94 ⟨rfl, rfl⟩
    · replace h := mm_if h c
      clear c
      refine mm_aload_n 0 dX4_parse_19 rfl rfl (pc' := 20) rfl ?_
      obtain ⟨t20, h20, h⟩ := mm_bd h
      refine mm_call0 (As := []) (rest := []) cV_X4_42 (ok_X4_takeToken h20) ⟨rfl, rfl, Nat.le_of_ble_eq_true rfl, Nat.le_of_ble_eq_true rfl⟩ dX4_parse_20 rfl rfl rfl rfl (by rintro _ _ ⟨-, rfl⟩; rfl) (Nat.le_of_ble_eq_true rfl) ⟨Nat.le_of_ble_eq_true rfl, Nat.le_of_ble_eq_true rfl⟩ (pc' := 23) rfl ?_
      rintro rv w ⟨rfl, rfl⟩
      show mm_Wp _ _ _ _ 23 [(0, .ref 0)] [] (W_X4 q_length q_items t20.1 t20.2.1 t20.2.2.1 t20.2.2.2 q_bytes q_words q_numbers)
      clear h20
      refine mm_aload_n 0 dX4_parse_23 rfl rfl (pc' := 24) rfl ?_
      refine mm_getf fG_X4_31 dX4_parse_24 rfl rfl (pc' := 27) rfl ?_
      refine mm_iconst dX4_parse_27 ki_3 (pc' := 28) rfl ?_
      refine mm_icmp_ne (tgt := 33) dX4_parse_28 (by decide) (pc' := 31) rfl (fun c => ?_) (fun c => ?_)
      · replace h := mm_if h c
        clear c
        refine mm_aload_n 0 dX4_parse_33 rfl rfl (pc' := 34) rfl ?_
        refine mm_getf fG_X4_31 dX4_parse_34 rfl rfl (pc' := 37) rfl ?_
        refine mm_if_eq (tgt := 45) dX4_parse_37 (by decide) (pc' := 40) rfl (fun c => ?_) (fun c => ?_)
        · replace h := mm_it h c
          clear c
          refine mm_aload_n 0 dX4_parse_45 rfl rfl (pc' := 46) rfl ?_
          refine mm_aload_n 0 dX4_parse_46 rfl rfl (pc' := 47) rfl ?_
          refine mm_getf fG_X4_37 dX4_parse_47 rfl rfl (pc' := 50) rfl ?_
          obtain ⟨t50, h50, h⟩ := mm_bd h
          refine mm_call0 (As := [.int t20.2.2.2]) (rest := []) cV_X4_45 (ok_X4_takeItem h50) ⟨rfl, rfl, Nat.le_of_ble_eq_true rfl, Nat.le_of_ble_eq_true rfl⟩ dX4_parse_50 rfl rfl rfl rfl (by rintro _ _ ⟨-, rfl⟩; rfl) (Nat.le_of_ble_eq_true rfl) ⟨Nat.le_of_ble_eq_true rfl, Nat.le_of_ble_eq_true rfl⟩ (pc' := 53) rfl ?_
          rintro rv w ⟨rfl, rfl⟩
          show mm_Wp _ _ _ _ 53 [(0, .ref 0)] [.int t50.1] (W_X4 q_length q_items t50.2.1 t50.2.2.1 t50.2.2.2.1 t50.2.2.2.2.1 q_bytes t50.2.2.2.2.2.1 t50.2.2.2.2.2.2)
          clear h50
          refine mm_if_ne (tgt := 61) dX4_parse_53 (by decide) (pc' := 56) rfl (fun c => ?_) (fun c => ?_)
          · replace h := mm_if h c
            clear c
            refine mm_aload_n 0 dX4_parse_61 rfl rfl (pc' := 62) rfl ?_
            refine mm_dup dX4_parse_62 rfl (pc' := 63) rfl ?_
            refine mm_getf fG_X4_15 dX4_parse_63 rfl rfl (pc' := 66) rfl ?_
            refine mm_iconst dX4_parse_66 ki_1 (pc' := 67) rfl ?_
            refine mm_iadd dX4_parse_67 (pc' := 68) rfl ?_
            refine mm_putf fP_X4_15 dX4_parse_68 rfl (Nat.le_of_ble_eq_true rfl) (fun _ => rfl) (fun _ => rfl) (ws' := (W_X4 q_length (q_items + (1 : Int32)) t50.2.1 t50.2.2.1 t50.2.2.2.1 t50.2.2.2.2.1 q_bytes t50.2.2.2.2.2.1 t50.2.2.2.2.2.2)) rfl (pc' := 71) rfl ?_
            refine mm_goto (tgt := 10) dX4_parse_71 (by decide) ?_
            exact hr10 _ _ _ _ _ _ _ h
          · replace h := mm_it h c
            clear c
            refine mm_aload_n 0 dX4_parse_56 rfl rfl (pc' := 57) rfl ?_
            refine mm_getf fG_X4_34 dX4_parse_57 rfl rfl (pc' := 60) rfl ?_
            have h9 := Option.some.inj h
            subst h9
            exact mm_iret rfl dX4_parse_60 ⟨rfl, rfl⟩
        · replace h := mm_if h c
          clear c
          refine mm_aload_n 0 dX4_parse_40 rfl rfl (pc' := 41) rfl ?_
          refine mm_getf fG_X4_34 dX4_parse_41 rfl rfl (pc' := 44) rfl ?_
          have h9 := Option.some.inj h
          subst h9
          exact mm_iret rfl dX4_parse_44 ⟨rfl, rfl⟩
      · replace h := mm_it h c
        clear c
        refine mm_iconst dX4_parse_31 ki_m1 (pc' := 32) rfl ?_
        have h9 := Option.some.inj h
        subst h9
        exact mm_iret rfl dX4_parse_32 ⟨rfl, rfl⟩
def f_X4_parse (fu : Nat) (q_length : Int32) (q_items : Int32) (q_place : Int32) (q_token : Int32) (q_tokenAt : Int32) (q_tokenValue : Int32) (q_bytes : Nat → Int32) (q_words : Nat → Int32) (q_numbers : Nat → Int32) : Option (Int32 × Int32 × Int32 × Int32 × Int32 × Int32 × (Nat → Int32) × (Nat → Int32)) := X4_parse_L10 fu q_length q_bytes fu (0 : Int32) (0 : Int32) q_token q_tokenAt q_tokenValue q_words q_numbers
set_option maxHeartbeats 4000000 in
set_option maxRecDepth 100000 in
theorem ok_X4_parse {fu : Nat} {q_length : Int32} {q_items : Int32} {q_place : Int32} {q_token : Int32} {q_tokenAt : Int32} {q_tokenValue : Int32} {q_bytes : Nat → Int32} {q_words : Nat → Int32} {q_numbers : Nat → Int32} {r : Int32 × Int32 × Int32 × Int32 × Int32 × Int32 × (Nat → Int32) × (Nat → Int32)} (h : f_X4_parse fu q_length q_items q_place q_token q_tokenAt q_tokenValue q_bytes q_words q_numbers = some r) : mm_Ok mX4_parse [.ref 0] (W_X4 q_length q_items q_place q_token q_tokenAt q_tokenValue q_bytes q_words q_numbers) (P_X4_parse q_length q_bytes r) := by
  rw [f_X4_parse] at h
  refine mm_Ok.of pn_X4 (l := [(0, .ref 0)]) rfl (Nat.le_of_ble_eq_true rfl) ?_
  refine mm_aload_n 0 dX4_parse_0 rfl rfl (pc' := 1) rfl ?_
  refine mm_iconst dX4_parse_1 ki_0 (pc' := 2) rfl ?_
  refine mm_putf fP_X4_15 dX4_parse_2 rfl (Nat.le_of_ble_eq_true rfl) (fun _ => rfl) (fun _ => rfl) (ws' := (W_X4 q_length (0 : Int32) q_place q_token q_tokenAt q_tokenValue q_bytes q_words q_numbers)) rfl (pc' := 5) rfl ?_
  refine mm_aload_n 0 dX4_parse_5 rfl rfl (pc' := 6) rfl ?_
  refine mm_iconst dX4_parse_6 ki_0 (pc' := 7) rfl ?_
  refine mm_putf fP_X4_28 dX4_parse_7 rfl (Nat.le_of_ble_eq_true rfl) (fun _ => rfl) (fun _ => rfl) (ws' := (W_X4 q_length (0 : Int32) (0 : Int32) q_token q_tokenAt q_tokenValue q_bytes q_words q_numbers)) rfl (pc' := 10) rfl ?_
  exact s_X4_parse_L10  _ _ _ _ _ _ _ _ h

def P_X4_tellItem (q_length : Int32) (q_items : Int32) (q_place : Int32) (q_token : Int32) (q_tokenAt : Int32) (q_tokenValue : Int32) (q_bytes : Nat → Int32) (q_words : Nat → Int32) (q_numbers : Nat → Int32) (u_readAt : Nat → Int32) (u_meant : Nat → Int32) (u_readSo : Nat → Int32) (r : Int32 × Int32 × Int32 × Int32 × Int32 × Int32 × Int32 × (Nat → Int32) × (Nat → Int32) × (Nat → Int32) × (Nat → Int32) × (Nat → Int64) × (Nat → Int64) × (Nat → Int32)) : Option Value → mm_W → Prop := fun rv w => rv = some (.int r.1) ∧ w = (W_X4_X5 q_length q_items q_place q_token q_tokenAt q_tokenValue q_bytes q_words q_numbers r.2.1 r.2.2.1 r.2.2.2.1 r.2.2.2.2.1 r.2.2.2.2.2.1 r.2.2.2.2.2.2.1 r.2.2.2.2.2.2.2.1 r.2.2.2.2.2.2.2.2.1 r.2.2.2.2.2.2.2.2.2.1 r.2.2.2.2.2.2.2.2.2.2.1 r.2.2.2.2.2.2.2.2.2.2.2.1 r.2.2.2.2.2.2.2.2.2.2.2.2.1 r.2.2.2.2.2.2.2.2.2.2.2.2.2 u_readAt u_meant u_readSo)
def f_X4_tellItem (fu : Nat) (q_numbers : Nat → Int32) (u_wide : Int32) (u_high : Int32) (u_slackNow : Int32) (u_tenants : Int32) (u_letters : Int32) (u_readings : Int32) (u_kinds : Nat → Int32) (u_painOf : Nat → Int32) (u_payFor : Nat → Int32) (u_refused : Nat → Int32) (u_owned : Nat → Int64) (u_litIn : Nat → Int64) (u_shapes : Nat → Int32) (v2 : Int32) (v3 : Int32) : Option (Int32 × Int32 × Int32 × Int32 × Int32 × Int32 × Int32 × (Nat → Int32) × (Nat → Int32) × (Nat → Int32) × (Nat → Int32) × (Nat → Int64) × (Nat → Int64) × (Nat → Int32)) := mm_rd q_numbers 300 v3 fun x5 => mm_rd q_numbers 300 (v3 + (1 : Int32)) fun x15 => mm_rd q_numbers 300 (v3 + (2 : Int32)) fun x25 => if v2 = (0 : Int32) then ((f_X5_setSize fu u_wide u_high u_slackNow u_tenants u_letters u_readings u_litIn x5 x15).bind fun t73 => some (t73.1, t73.2.1, t73.2.2.1, t73.2.2.2.1, t73.2.2.2.2.1, t73.2.2.2.2.2.1, t73.2.2.2.2.2.2.1, u_kinds, u_painOf, u_payFor, u_refused, u_owned, t73.2.2.2.2.2.2.2, u_shapes)) else (if v2 = (1 : Int32) then ((f_X5_addTenant fu u_tenants u_kinds u_painOf u_payFor u_refused u_owned x5 x15 x25).bind fun t84 => some (t84.1, u_wide, u_high, u_slackNow, t84.2.1, u_letters, u_readings, t84.2.2.1, t84.2.2.2.1, t84.2.2.2.2.1, t84.2.2.2.2.2.1, t84.2.2.2.2.2.2, u_litIn, u_shapes)) else (if v2 = (2 : Int32) then ((f_X5_isWindowAt fu u_wide u_high x15 x25).bind fun t107 => if t107 = 0 then (some ((-2 : Int32), u_wide, u_high, u_slackNow, u_tenants, u_letters, u_readings, u_kinds, u_painOf, u_payFor, u_refused, u_owned, u_litIn, u_shapes)) else (mm_let (((12 : Int32) * x25) + x15) fun y124 => if v2 = (2 : Int32) then ((f_X5_setOwner fu u_wide u_high u_tenants u_owned y124 x5).bind fun t136 => some (t136.1, u_wide, u_high, u_slackNow, u_tenants, u_letters, u_readings, u_kinds, u_painOf, u_payFor, u_refused, t136.2, u_litIn, u_shapes)) else ((f_X5_setLit fu u_wide u_high u_litIn x5 y124 (1 : Int32)).bind fun t148 => some (t148.1, u_wide, u_high, u_slackNow, u_tenants, u_letters, u_readings, u_kinds, u_painOf, u_payFor, u_refused, u_owned, t148.2, u_shapes)))) else (if v2 = (3 : Int32) then ((f_X5_addLetter fu u_letters u_shapes x5).bind fun t91 => some (t91.1, u_wide, u_high, u_slackNow, u_tenants, t91.2.1, u_readings, u_kinds, u_painOf, u_payFor, u_refused, u_owned, u_litIn, t91.2.2)) else (if v2 = (4 : Int32) then ((f_X5_isWindowAt fu u_wide u_high x15 x25).bind fun t107 => if t107 = 0 then (some ((-2 : Int32), u_wide, u_high, u_slackNow, u_tenants, u_letters, u_readings, u_kinds, u_painOf, u_payFor, u_refused, u_owned, u_litIn, u_shapes)) else (mm_let (((12 : Int32) * x25) + x15) fun y124 => if v2 = (2 : Int32) then ((f_X5_setOwner fu u_wide u_high u_tenants u_owned y124 x5).bind fun t136 => some (t136.1, u_wide, u_high, u_slackNow, u_tenants, u_letters, u_readings, u_kinds, u_painOf, u_payFor, u_refused, t136.2, u_litIn, u_shapes)) else ((f_X5_setLit fu u_wide u_high u_litIn x5 y124 (1 : Int32)).bind fun t148 => some (t148.1, u_wide, u_high, u_slackNow, u_tenants, u_letters, u_readings, u_kinds, u_painOf, u_payFor, u_refused, u_owned, t148.2, u_shapes)))) else (if v2 = (5 : Int32) then ((f_X5_setSlack fu u_slackNow x5).bind fun t98 => some (t98.1, u_wide, u_high, t98.2, u_tenants, u_letters, u_readings, u_kinds, u_painOf, u_payFor, u_refused, u_owned, u_litIn, u_shapes)) else ((f_X5_isWindowAt fu u_wide u_high x15 x25).bind fun t107 => if t107 = 0 then (some ((-2 : Int32), u_wide, u_high, u_slackNow, u_tenants, u_letters, u_readings, u_kinds, u_painOf, u_payFor, u_refused, u_owned, u_litIn, u_shapes)) else (mm_let (((12 : Int32) * x25) + x15) fun y124 => if v2 = (2 : Int32) then ((f_X5_setOwner fu u_wide u_high u_tenants u_owned y124 x5).bind fun t136 => some (t136.1, u_wide, u_high, u_slackNow, u_tenants, u_letters, u_readings, u_kinds, u_painOf, u_payFor, u_refused, t136.2, u_litIn, u_shapes)) else ((f_X5_setLit fu u_wide u_high u_litIn x5 y124 (1 : Int32)).bind fun t148 => some (t148.1, u_wide, u_high, u_slackNow, u_tenants, u_letters, u_readings, u_kinds, u_painOf, u_payFor, u_refused, u_owned, t148.2, u_shapes)))))))))
set_option maxHeartbeats 4000000 in
set_option maxRecDepth 100000 in
theorem ok_X4_tellItem {fu : Nat} {q_length : Int32} {q_items : Int32} {q_place : Int32} {q_token : Int32} {q_tokenAt : Int32} {q_tokenValue : Int32} {q_bytes : Nat → Int32} {q_words : Nat → Int32} {q_numbers : Nat → Int32} {u_wide : Int32} {u_high : Int32} {u_slackNow : Int32} {u_tenants : Int32} {u_letters : Int32} {u_readings : Int32} {u_kinds : Nat → Int32} {u_painOf : Nat → Int32} {u_payFor : Nat → Int32} {u_refused : Nat → Int32} {u_owned : Nat → Int64} {u_litIn : Nat → Int64} {u_shapes : Nat → Int32} {u_readAt : Nat → Int32} {u_meant : Nat → Int32} {u_readSo : Nat → Int32} {r : Int32 × Int32 × Int32 × Int32 × Int32 × Int32 × Int32 × (Nat → Int32) × (Nat → Int32) × (Nat → Int32) × (Nat → Int32) × (Nat → Int64) × (Nat → Int64) × (Nat → Int32)} {v2 : Int32} {v3 : Int32} (h : f_X4_tellItem fu q_numbers u_wide u_high u_slackNow u_tenants u_letters u_readings u_kinds u_painOf u_payFor u_refused u_owned u_litIn u_shapes v2 v3 = some r) : mm_Ok mX4_tellItem [.ref 0, .ref 4, .int v2, .int v3] (W_X4_X5 q_length q_items q_place q_token q_tokenAt q_tokenValue q_bytes q_words q_numbers u_wide u_high u_slackNow u_tenants u_letters u_readings u_kinds u_painOf u_payFor u_refused u_owned u_litIn u_shapes u_readAt u_meant u_readSo) (P_X4_tellItem q_length q_items q_place q_token q_tokenAt q_tokenValue q_bytes q_words q_numbers u_readAt u_meant u_readSo r) := by
  rw [f_X4_tellItem] at h
  refine mm_Ok.of pn_X4 (l := [(0, .ref 0), (1, .ref 4), (2, .int v2), (3, .int v3)]) rfl (Nat.le_of_ble_eq_true rfl) ?_
  refine mm_aload_n 0 dX4_tellItem_0 rfl rfl (pc' := 1) rfl ?_
  refine mm_getf fG_X4_25 dX4_tellItem_1 rfl rfl (pc' := 4) rfl ?_
  refine mm_iload_n 3 dX4_tellItem_4 rfl rfl (pc' := 5) rfl ?_
  obtain ⟨x5, c5, e5, h⟩ := mm_rd_of h
  refine mm_iald dX4_tellItem_5 rfl c5 e5 (pc' := 6) rfl ?_
  clear c5 e5
  refine mm_istore dX4_tellItem_6 (by decide) (l' := [(4, .int x5), (0, .ref 0), (1, .ref 4), (2, .int v2), (3, .int v3)]) rfl (pc' := 8) rfl ?_
  refine mm_aload_n 1 dX4_tellItem_8 rfl rfl (pc' := 9) rfl ?_
  refine mm_getf fG_X4_25 dX4_tellItem_9 rfl rfl (pc' := 12) rfl ?_
  refine mm_iload_n 4 dX4_tellItem_12 rfl rfl (pc' := 13) rfl ?_
  refine mm_iconst dX4_tellItem_13 ki_1 (pc' := 14) rfl ?_
  refine mm_iadd dX4_tellItem_14 (pc' := 15) rfl ?_
  obtain ⟨x15, c15, e15, h⟩ := mm_rd_of h
  refine mm_iald dX4_tellItem_15 rfl c15 e15 (pc' := 16) rfl ?_
  clear c15 e15
  refine mm_istore dX4_tellItem_16 (by decide) (l' := [(5, .int x15), (4, .int x5), (0, .ref 0), (1, .ref 4), (2, .int v2), (3, .int v3)]) rfl (pc' := 18) rfl ?_
  refine mm_aload_n 2 dX4_tellItem_18 rfl rfl (pc' := 19) rfl ?_
  refine mm_getf fG_X4_25 dX4_tellItem_19 rfl rfl (pc' := 22) rfl ?_
  refine mm_iload_n 5 dX4_tellItem_22 rfl rfl (pc' := 23) rfl ?_
  refine mm_iconst dX4_tellItem_23 ki_2 (pc' := 24) rfl ?_
  refine mm_iadd dX4_tellItem_24 (pc' := 25) rfl ?_
  obtain ⟨x25, c25, e25, h⟩ := mm_rd_of h
  refine mm_iald dX4_tellItem_25 rfl c25 e25 (pc' := 26) rfl ?_
  clear c25 e25
  refine mm_istore dX4_tellItem_26 (by decide) (l' := [(6, .int x25), (5, .int x15), (4, .int x5), (0, .ref 0), (1, .ref 4), (2, .int v2), (3, .int v3)]) rfl (pc' := 28) rfl ?_
  refine mm_iload_n 5 dX4_tellItem_28 rfl rfl (pc' := 29) rfl ?_
  by_cases c0 : v2 = (0 : Int32)
  · replace h := mm_it h c0
    refine mm_tswIn (off := 39) (tgt := 68) (0 : Int32) c0 dX4_tellItem_29 (by decide) (by decide) (by decide) (by decide) ?_
    clear c0
    refine mm_aload_n 4 dX4_tellItem_68 rfl rfl (pc' := 69) rfl ?_
    refine mm_iload 2 dX4_tellItem_69 rfl (pc' := 71) rfl ?_
    refine mm_iload 1 dX4_tellItem_71 rfl (pc' := 73) rfl ?_
    obtain ⟨t73, h73, h⟩ := mm_bd h
    refine mm_callV (As := [.int x5, .int x15]) (rest := []) (av := [.ref 0, .int x5, .int x15]) (wc := (W_X5 u_wide u_high u_slackNow u_tenants u_letters u_readings u_kinds u_painOf u_payFor u_refused u_owned u_litIn u_shapes u_readAt u_meant u_readSo)) (is := [4, 5, 6, 7, 8, 9, 10, 11, 12, 13, 14]) cV_X4_98 (ok_X5_setSize h73) ⟨rfl, rfl, Nat.le_of_ble_eq_true rfl, Nat.le_of_ble_eq_true rfl⟩ dX4_tellItem_73 rfl rfl rfl rfl rfl ⟨rfl, by decide, by decide⟩ (by rintro _ _ ⟨-, rfl⟩; rfl) (Nat.le_of_ble_eq_true rfl) ⟨Nat.le_of_ble_eq_true rfl, Nat.le_of_ble_eq_true rfl⟩ (pc' := 76) rfl ?_
    rintro rv w ⟨rfl, rfl⟩
    show mm_Wp _ _ _ _ 76 [(6, .int x25), (5, .int x15), (4, .int x5), (0, .ref 0), (1, .ref 4), (2, .int v2), (3, .int v3)] [.int t73.1] (W_X4_X5 q_length q_items q_place q_token q_tokenAt q_tokenValue q_bytes q_words q_numbers t73.2.1 t73.2.2.1 t73.2.2.2.1 t73.2.2.2.2.1 t73.2.2.2.2.2.1 t73.2.2.2.2.2.2.1 u_kinds u_painOf u_payFor u_refused u_owned t73.2.2.2.2.2.2.2 u_shapes u_readAt u_meant u_readSo)
    clear h73
    have h9 := Option.some.inj h
    subst h9
    exact mm_iret rfl dX4_tellItem_76 ⟨rfl, rfl⟩
  replace h := mm_if h c0
  by_cases c1 : v2 = (1 : Int32)
  · replace h := mm_it h c1
    refine mm_tswIn (off := 48) (tgt := 77) (1 : Int32) c1 dX4_tellItem_29 (by decide) (by decide) (by decide) (by decide) ?_
    clear c0 c1
    refine mm_aload_n 4 dX4_tellItem_77 rfl rfl (pc' := 78) rfl ?_
    refine mm_iload 2 dX4_tellItem_78 rfl (pc' := 80) rfl ?_
    refine mm_iload 1 dX4_tellItem_80 rfl (pc' := 82) rfl ?_
    refine mm_iload 0 dX4_tellItem_82 rfl (pc' := 84) rfl ?_
    obtain ⟨t84, h84, h⟩ := mm_bd h
    refine mm_callV (As := [.int x5, .int x15, .int x25]) (rest := []) (av := [.ref 0, .int x5, .int x15, .int x25]) (wc := (W_X5 u_wide u_high u_slackNow u_tenants u_letters u_readings u_kinds u_painOf u_payFor u_refused u_owned u_litIn u_shapes u_readAt u_meant u_readSo)) (is := [4, 5, 6, 7, 8, 9, 10, 11, 12, 13, 14]) cV_X4_104 (ok_X5_addTenant h84) ⟨rfl, rfl, Nat.le_of_ble_eq_true rfl, Nat.le_of_ble_eq_true rfl⟩ dX4_tellItem_84 rfl rfl rfl rfl rfl ⟨rfl, by decide, by decide⟩ (by rintro _ _ ⟨-, rfl⟩; rfl) (Nat.le_of_ble_eq_true rfl) ⟨Nat.le_of_ble_eq_true rfl, Nat.le_of_ble_eq_true rfl⟩ (pc' := 87) rfl ?_
    rintro rv w ⟨rfl, rfl⟩
    show mm_Wp _ _ _ _ 87 [(6, .int x25), (5, .int x15), (4, .int x5), (0, .ref 0), (1, .ref 4), (2, .int v2), (3, .int v3)] [.int t84.1] (W_X4_X5 q_length q_items q_place q_token q_tokenAt q_tokenValue q_bytes q_words q_numbers u_wide u_high u_slackNow t84.2.1 u_letters u_readings t84.2.2.1 t84.2.2.2.1 t84.2.2.2.2.1 t84.2.2.2.2.2.1 t84.2.2.2.2.2.2 u_litIn u_shapes u_readAt u_meant u_readSo)
    clear h84
    have h9 := Option.some.inj h
    subst h9
    exact mm_iret rfl dX4_tellItem_87 ⟨rfl, rfl⟩
  replace h := mm_if h c1
  by_cases c2 : v2 = (2 : Int32)
  · replace h := mm_it h c2
    refine mm_tswIn (off := 73) (tgt := 102) (2 : Int32) c2 dX4_tellItem_29 (by decide) (by decide) (by decide) (by decide) ?_
    clear c0 c1 c2
    refine mm_aload_n 4 dX4_tellItem_102 rfl rfl (pc' := 103) rfl ?_
    refine mm_iload 1 dX4_tellItem_103 rfl (pc' := 105) rfl ?_
    refine mm_iload 0 dX4_tellItem_105 rfl (pc' := 107) rfl ?_
    obtain ⟨t107, h107, h⟩ := mm_bd h
    refine mm_callV (As := [.int x15, .int x25]) (rest := []) (av := [.ref 0, .int x15, .int x25]) (wc := (W_X5 u_wide u_high u_slackNow u_tenants u_letters u_readings u_kinds u_painOf u_payFor u_refused u_owned u_litIn u_shapes u_readAt u_meant u_readSo)) (is := [4, 5, 6, 7, 8, 9, 10, 11, 12, 13, 14]) cV_X4_114 (ok_X5_isWindowAt h107) ⟨rfl, rfl, Nat.le_of_ble_eq_true rfl, Nat.le_of_ble_eq_true rfl⟩ dX4_tellItem_107 rfl rfl rfl rfl rfl ⟨rfl, by decide, by decide⟩ (by rintro _ _ ⟨-, rfl⟩; rfl) (Nat.le_of_ble_eq_true rfl) ⟨Nat.le_of_ble_eq_true rfl, Nat.le_of_ble_eq_true rfl⟩ (pc' := 110) rfl ?_
    rintro rv w ⟨rfl, rfl⟩
    show mm_Wp _ _ _ _ 110 [(6, .int x25), (5, .int x15), (4, .int x5), (0, .ref 0), (1, .ref 4), (2, .int v2), (3, .int v3)] [.int t107] (W_X4_X5 q_length q_items q_place q_token q_tokenAt q_tokenValue q_bytes q_words q_numbers u_wide u_high u_slackNow u_tenants u_letters u_readings u_kinds u_painOf u_payFor u_refused u_owned u_litIn u_shapes u_readAt u_meant u_readSo)
    clear h107
    refine mm_if_ne (tgt := 116) dX4_tellItem_110 (by decide) (pc' := 113) rfl (fun c => ?_) (fun c => ?_)
    · replace h := mm_if h c
      clear c
      refine mm_bipush dX4_tellItem_116 kb_12 (pc' := 118) rfl ?_
      refine mm_iload 0 dX4_tellItem_118 rfl (pc' := 120) rfl ?_
      refine mm_imul dX4_tellItem_120 (pc' := 121) rfl ?_
      refine mm_iload 1 dX4_tellItem_121 rfl (pc' := 123) rfl ?_
      refine mm_iadd dX4_tellItem_123 (pc' := 124) rfl ?_
      refine mm_topi (fun y124 e => ?_)
      replace h := mm_let_of h y124 e
      clear e
      refine mm_istore dX4_tellItem_124 (by decide) (l' := [(7, .int y124), (6, .int x25), (5, .int x15), (4, .int x5), (0, .ref 0), (1, .ref 4), (2, .int v2), (3, .int v3)]) rfl (pc' := 126) rfl ?_
      refine mm_iload_n 6 dX4_tellItem_126 rfl rfl (pc' := 127) rfl ?_
      refine mm_iconst dX4_tellItem_127 ki_2 (pc' := 128) rfl ?_
      refine mm_icmp_ne (tgt := 142) dX4_tellItem_128 (by decide) (pc' := 131) rfl (fun c => ?_) (fun c => ?_)
      · replace h := mm_if h c
        clear c
        refine mm_aload_n 5 dX4_tellItem_142 rfl rfl (pc' := 143) rfl ?_
        refine mm_iload 3 dX4_tellItem_143 rfl (pc' := 145) rfl ?_
        refine mm_iload 0 dX4_tellItem_145 rfl (pc' := 147) rfl ?_
        refine mm_iconst dX4_tellItem_147 ki_1 (pc' := 148) rfl ?_
        obtain ⟨t148, h148, h⟩ := mm_bd h
        refine mm_callV (As := [.int x5, .int y124, .int (1 : Int32)]) (rest := []) (av := [.ref 0, .int x5, .int y124, .int (1 : Int32)]) (wc := (W_X5 u_wide u_high u_slackNow u_tenants u_letters u_readings u_kinds u_painOf u_payFor u_refused u_owned u_litIn u_shapes u_readAt u_meant u_readSo)) (is := [4, 5, 6, 7, 8, 9, 10, 11, 12, 13, 14]) cV_X4_121 (ok_X5_setLit h148) ⟨rfl, rfl, Nat.le_of_ble_eq_true rfl, Nat.le_of_ble_eq_true rfl⟩ dX4_tellItem_148 rfl rfl rfl rfl rfl ⟨rfl, by decide, by decide⟩ (by rintro _ _ ⟨-, rfl⟩; rfl) (Nat.le_of_ble_eq_true rfl) ⟨Nat.le_of_ble_eq_true rfl, Nat.le_of_ble_eq_true rfl⟩ (pc' := 151) rfl ?_
        rintro rv w ⟨rfl, rfl⟩
        show mm_Wp _ _ _ _ 151 [(7, .int y124), (6, .int x25), (5, .int x15), (4, .int x5), (0, .ref 0), (1, .ref 4), (2, .int v2), (3, .int v3)] [.int t148.1] (W_X4_X5 q_length q_items q_place q_token q_tokenAt q_tokenValue q_bytes q_words q_numbers u_wide u_high u_slackNow u_tenants u_letters u_readings u_kinds u_painOf u_payFor u_refused u_owned t148.2 u_shapes u_readAt u_meant u_readSo)
        clear h148
        have h9 := Option.some.inj h
        subst h9
        exact mm_iret rfl dX4_tellItem_151 ⟨rfl, rfl⟩
      · replace h := mm_it h c
        clear c
        refine mm_aload_n 5 dX4_tellItem_131 rfl rfl (pc' := 132) rfl ?_
        refine mm_iload 0 dX4_tellItem_132 rfl (pc' := 134) rfl ?_
        refine mm_iload 3 dX4_tellItem_134 rfl (pc' := 136) rfl ?_
        obtain ⟨t136, h136, h⟩ := mm_bd h
        refine mm_callV (As := [.int y124, .int x5]) (rest := []) (av := [.ref 0, .int y124, .int x5]) (wc := (W_X5 u_wide u_high u_slackNow u_tenants u_letters u_readings u_kinds u_painOf u_payFor u_refused u_owned u_litIn u_shapes u_readAt u_meant u_readSo)) (is := [4, 5, 6, 7, 8, 9, 10, 11, 12, 13, 14]) cV_X4_118 (ok_X5_setOwner h136) ⟨rfl, rfl, Nat.le_of_ble_eq_true rfl, Nat.le_of_ble_eq_true rfl⟩ dX4_tellItem_136 rfl rfl rfl rfl rfl ⟨rfl, by decide, by decide⟩ (by rintro _ _ ⟨-, rfl⟩; rfl) (Nat.le_of_ble_eq_true rfl) ⟨Nat.le_of_ble_eq_true rfl, Nat.le_of_ble_eq_true rfl⟩ (pc' := 139) rfl ?_
        rintro rv w ⟨rfl, rfl⟩
        show mm_Wp _ _ _ _ 139 [(7, .int y124), (6, .int x25), (5, .int x15), (4, .int x5), (0, .ref 0), (1, .ref 4), (2, .int v2), (3, .int v3)] [.int t136.1] (W_X4_X5 q_length q_items q_place q_token q_tokenAt q_tokenValue q_bytes q_words q_numbers u_wide u_high u_slackNow u_tenants u_letters u_readings u_kinds u_painOf u_payFor u_refused t136.2 u_litIn u_shapes u_readAt u_meant u_readSo)
        clear h136
        refine mm_goto (tgt := 151) dX4_tellItem_139 (by decide) ?_
        have h9 := Option.some.inj h
        subst h9
        exact mm_iret rfl dX4_tellItem_151 ⟨rfl, rfl⟩
    · replace h := mm_it h c
      clear c
      refine mm_bipush dX4_tellItem_113 kb_m2 (pc' := 115) rfl ?_
      have h9 := Option.some.inj h
      subst h9
      exact mm_iret rfl dX4_tellItem_115 ⟨rfl, rfl⟩
  replace h := mm_if h c2
  by_cases c3 : v2 = (3 : Int32)
  · replace h := mm_it h c3
    refine mm_tswIn (off := 59) (tgt := 88) (3 : Int32) c3 dX4_tellItem_29 (by decide) (by decide) (by decide) (by decide) ?_
    clear c0 c1 c2 c3
    refine mm_aload_n 4 dX4_tellItem_88 rfl rfl (pc' := 89) rfl ?_
    refine mm_iload 2 dX4_tellItem_89 rfl (pc' := 91) rfl ?_
    obtain ⟨t91, h91, h⟩ := mm_bd h
    refine mm_callV (As := [.int x5]) (rest := []) (av := [.ref 0, .int x5]) (wc := (W_X5 u_wide u_high u_slackNow u_tenants u_letters u_readings u_kinds u_painOf u_payFor u_refused u_owned u_litIn u_shapes u_readAt u_meant u_readSo)) (is := [4, 5, 6, 7, 8, 9, 10, 11, 12, 13, 14]) cV_X4_108 (ok_X5_addLetter h91) ⟨rfl, rfl, Nat.le_of_ble_eq_true rfl, Nat.le_of_ble_eq_true rfl⟩ dX4_tellItem_91 rfl rfl rfl rfl rfl ⟨rfl, by decide, by decide⟩ (by rintro _ _ ⟨-, rfl⟩; rfl) (Nat.le_of_ble_eq_true rfl) ⟨Nat.le_of_ble_eq_true rfl, Nat.le_of_ble_eq_true rfl⟩ (pc' := 94) rfl ?_
    rintro rv w ⟨rfl, rfl⟩
    show mm_Wp _ _ _ _ 94 [(6, .int x25), (5, .int x15), (4, .int x5), (0, .ref 0), (1, .ref 4), (2, .int v2), (3, .int v3)] [.int t91.1] (W_X4_X5 q_length q_items q_place q_token q_tokenAt q_tokenValue q_bytes q_words q_numbers u_wide u_high u_slackNow u_tenants t91.2.1 u_readings u_kinds u_painOf u_payFor u_refused u_owned u_litIn t91.2.2 u_readAt u_meant u_readSo)
    clear h91
    have h9 := Option.some.inj h
    subst h9
    exact mm_iret rfl dX4_tellItem_94 ⟨rfl, rfl⟩
  replace h := mm_if h c3
  by_cases c4 : v2 = (4 : Int32)
  · replace h := mm_it h c4
    refine mm_tswIn (off := 73) (tgt := 102) (4 : Int32) c4 dX4_tellItem_29 (by decide) (by decide) (by decide) (by decide) ?_
    clear c0 c1 c2 c3 c4
    refine mm_aload_n 4 dX4_tellItem_102 rfl rfl (pc' := 103) rfl ?_
    refine mm_iload 1 dX4_tellItem_103 rfl (pc' := 105) rfl ?_
    refine mm_iload 0 dX4_tellItem_105 rfl (pc' := 107) rfl ?_
    obtain ⟨t107, h107, h⟩ := mm_bd h
    refine mm_callV (As := [.int x15, .int x25]) (rest := []) (av := [.ref 0, .int x15, .int x25]) (wc := (W_X5 u_wide u_high u_slackNow u_tenants u_letters u_readings u_kinds u_painOf u_payFor u_refused u_owned u_litIn u_shapes u_readAt u_meant u_readSo)) (is := [4, 5, 6, 7, 8, 9, 10, 11, 12, 13, 14]) cV_X4_114 (ok_X5_isWindowAt h107) ⟨rfl, rfl, Nat.le_of_ble_eq_true rfl, Nat.le_of_ble_eq_true rfl⟩ dX4_tellItem_107 rfl rfl rfl rfl rfl ⟨rfl, by decide, by decide⟩ (by rintro _ _ ⟨-, rfl⟩; rfl) (Nat.le_of_ble_eq_true rfl) ⟨Nat.le_of_ble_eq_true rfl, Nat.le_of_ble_eq_true rfl⟩ (pc' := 110) rfl ?_
    rintro rv w ⟨rfl, rfl⟩
    show mm_Wp _ _ _ _ 110 [(6, .int x25), (5, .int x15), (4, .int x5), (0, .ref 0), (1, .ref 4), (2, .int v2), (3, .int v3)] [.int t107] (W_X4_X5 q_length q_items q_place q_token q_tokenAt q_tokenValue q_bytes q_words q_numbers u_wide u_high u_slackNow u_tenants u_letters u_readings u_kinds u_painOf u_payFor u_refused u_owned u_litIn u_shapes u_readAt u_meant u_readSo)
    clear h107
    refine mm_if_ne (tgt := 116) dX4_tellItem_110 (by decide) (pc' := 113) rfl (fun c => ?_) (fun c => ?_)
    · replace h := mm_if h c
      clear c
      refine mm_bipush dX4_tellItem_116 kb_12 (pc' := 118) rfl ?_
      refine mm_iload 0 dX4_tellItem_118 rfl (pc' := 120) rfl ?_
      refine mm_imul dX4_tellItem_120 (pc' := 121) rfl ?_
      refine mm_iload 1 dX4_tellItem_121 rfl (pc' := 123) rfl ?_
      refine mm_iadd dX4_tellItem_123 (pc' := 124) rfl ?_
      refine mm_topi (fun y124 e => ?_)
      replace h := mm_let_of h y124 e
      clear e
      refine mm_istore dX4_tellItem_124 (by decide) (l' := [(7, .int y124), (6, .int x25), (5, .int x15), (4, .int x5), (0, .ref 0), (1, .ref 4), (2, .int v2), (3, .int v3)]) rfl (pc' := 126) rfl ?_
      refine mm_iload_n 6 dX4_tellItem_126 rfl rfl (pc' := 127) rfl ?_
      refine mm_iconst dX4_tellItem_127 ki_2 (pc' := 128) rfl ?_
      refine mm_icmp_ne (tgt := 142) dX4_tellItem_128 (by decide) (pc' := 131) rfl (fun c => ?_) (fun c => ?_)
      · replace h := mm_if h c
        clear c
        refine mm_aload_n 5 dX4_tellItem_142 rfl rfl (pc' := 143) rfl ?_
        refine mm_iload 3 dX4_tellItem_143 rfl (pc' := 145) rfl ?_
        refine mm_iload 0 dX4_tellItem_145 rfl (pc' := 147) rfl ?_
        refine mm_iconst dX4_tellItem_147 ki_1 (pc' := 148) rfl ?_
        obtain ⟨t148, h148, h⟩ := mm_bd h
        refine mm_callV (As := [.int x5, .int y124, .int (1 : Int32)]) (rest := []) (av := [.ref 0, .int x5, .int y124, .int (1 : Int32)]) (wc := (W_X5 u_wide u_high u_slackNow u_tenants u_letters u_readings u_kinds u_painOf u_payFor u_refused u_owned u_litIn u_shapes u_readAt u_meant u_readSo)) (is := [4, 5, 6, 7, 8, 9, 10, 11, 12, 13, 14]) cV_X4_121 (ok_X5_setLit h148) ⟨rfl, rfl, Nat.le_of_ble_eq_true rfl, Nat.le_of_ble_eq_true rfl⟩ dX4_tellItem_148 rfl rfl rfl rfl rfl ⟨rfl, by decide, by decide⟩ (by rintro _ _ ⟨-, rfl⟩; rfl) (Nat.le_of_ble_eq_true rfl) ⟨Nat.le_of_ble_eq_true rfl, Nat.le_of_ble_eq_true rfl⟩ (pc' := 151) rfl ?_
        rintro rv w ⟨rfl, rfl⟩
        show mm_Wp _ _ _ _ 151 [(7, .int y124), (6, .int x25), (5, .int x15), (4, .int x5), (0, .ref 0), (1, .ref 4), (2, .int v2), (3, .int v3)] [.int t148.1] (W_X4_X5 q_length q_items q_place q_token q_tokenAt q_tokenValue q_bytes q_words q_numbers u_wide u_high u_slackNow u_tenants u_letters u_readings u_kinds u_painOf u_payFor u_refused u_owned t148.2 u_shapes u_readAt u_meant u_readSo)
        clear h148
        have h9 := Option.some.inj h
        subst h9
        exact mm_iret rfl dX4_tellItem_151 ⟨rfl, rfl⟩
      · replace h := mm_it h c
        clear c
        refine mm_aload_n 5 dX4_tellItem_131 rfl rfl (pc' := 132) rfl ?_
        refine mm_iload 0 dX4_tellItem_132 rfl (pc' := 134) rfl ?_
        refine mm_iload 3 dX4_tellItem_134 rfl (pc' := 136) rfl ?_
        obtain ⟨t136, h136, h⟩ := mm_bd h
        refine mm_callV (As := [.int y124, .int x5]) (rest := []) (av := [.ref 0, .int y124, .int x5]) (wc := (W_X5 u_wide u_high u_slackNow u_tenants u_letters u_readings u_kinds u_painOf u_payFor u_refused u_owned u_litIn u_shapes u_readAt u_meant u_readSo)) (is := [4, 5, 6, 7, 8, 9, 10, 11, 12, 13, 14]) cV_X4_118 (ok_X5_setOwner h136) ⟨rfl, rfl, Nat.le_of_ble_eq_true rfl, Nat.le_of_ble_eq_true rfl⟩ dX4_tellItem_136 rfl rfl rfl rfl rfl ⟨rfl, by decide, by decide⟩ (by rintro _ _ ⟨-, rfl⟩; rfl) (Nat.le_of_ble_eq_true rfl) ⟨Nat.le_of_ble_eq_true rfl, Nat.le_of_ble_eq_true rfl⟩ (pc' := 139) rfl ?_
        rintro rv w ⟨rfl, rfl⟩
        show mm_Wp _ _ _ _ 139 [(7, .int y124), (6, .int x25), (5, .int x15), (4, .int x5), (0, .ref 0), (1, .ref 4), (2, .int v2), (3, .int v3)] [.int t136.1] (W_X4_X5 q_length q_items q_place q_token q_tokenAt q_tokenValue q_bytes q_words q_numbers u_wide u_high u_slackNow u_tenants u_letters u_readings u_kinds u_painOf u_payFor u_refused t136.2 u_litIn u_shapes u_readAt u_meant u_readSo)
        clear h136
        refine mm_goto (tgt := 151) dX4_tellItem_139 (by decide) ?_
        have h9 := Option.some.inj h
        subst h9
        exact mm_iret rfl dX4_tellItem_151 ⟨rfl, rfl⟩
    · replace h := mm_it h c
      clear c
      refine mm_bipush dX4_tellItem_113 kb_m2 (pc' := 115) rfl ?_
      have h9 := Option.some.inj h
      subst h9
      exact mm_iret rfl dX4_tellItem_115 ⟨rfl, rfl⟩
  replace h := mm_if h c4
  by_cases c5 : v2 = (5 : Int32)
  · replace h := mm_it h c5
    refine mm_tswIn (off := 66) (tgt := 95) (5 : Int32) c5 dX4_tellItem_29 (by decide) (by decide) (by decide) (by decide) ?_
    clear c0 c1 c2 c3 c4 c5
    refine mm_aload_n 4 dX4_tellItem_95 rfl rfl (pc' := 96) rfl ?_
    refine mm_iload 2 dX4_tellItem_96 rfl (pc' := 98) rfl ?_
    obtain ⟨t98, h98, h⟩ := mm_bd h
    refine mm_callV (As := [.int x5]) (rest := []) (av := [.ref 0, .int x5]) (wc := (W_X5 u_wide u_high u_slackNow u_tenants u_letters u_readings u_kinds u_painOf u_payFor u_refused u_owned u_litIn u_shapes u_readAt u_meant u_readSo)) (is := [4, 5, 6, 7, 8, 9, 10, 11, 12, 13, 14]) cV_X4_111 (ok_X5_setSlack h98) ⟨rfl, rfl, Nat.le_of_ble_eq_true rfl, Nat.le_of_ble_eq_true rfl⟩ dX4_tellItem_98 rfl rfl rfl rfl rfl ⟨rfl, by decide, by decide⟩ (by rintro _ _ ⟨-, rfl⟩; rfl) (Nat.le_of_ble_eq_true rfl) ⟨Nat.le_of_ble_eq_true rfl, Nat.le_of_ble_eq_true rfl⟩ (pc' := 101) rfl ?_
    rintro rv w ⟨rfl, rfl⟩
    show mm_Wp _ _ _ _ 101 [(6, .int x25), (5, .int x15), (4, .int x5), (0, .ref 0), (1, .ref 4), (2, .int v2), (3, .int v3)] [.int t98.1] (W_X4_X5 q_length q_items q_place q_token q_tokenAt q_tokenValue q_bytes q_words q_numbers u_wide u_high t98.2 u_tenants u_letters u_readings u_kinds u_painOf u_payFor u_refused u_owned u_litIn u_shapes u_readAt u_meant u_readSo)
    clear h98
    have h9 := Option.some.inj h
    subst h9
    exact mm_iret rfl dX4_tellItem_101 ⟨rfl, rfl⟩
  replace h := mm_if h c5
  refine mm_tswOut (tgt := 102) 0 6 [0, 1, 2, 3, 4, 5] (by decide +kernel) (mm_fa c0 (mm_fa c1 (mm_fa c2 (mm_fa c3 (mm_fa c4 (mm_fa c5 mm_f0)))))) dX4_tellItem_29 rfl rfl (by decide) ?_
  clear c0 c1 c2 c3 c4 c5
  refine mm_aload_n 4 dX4_tellItem_102 rfl rfl (pc' := 103) rfl ?_
  refine mm_iload 1 dX4_tellItem_103 rfl (pc' := 105) rfl ?_
  refine mm_iload 0 dX4_tellItem_105 rfl (pc' := 107) rfl ?_
  obtain ⟨t107, h107, h⟩ := mm_bd h
  refine mm_callV (As := [.int x15, .int x25]) (rest := []) (av := [.ref 0, .int x15, .int x25]) (wc := (W_X5 u_wide u_high u_slackNow u_tenants u_letters u_readings u_kinds u_painOf u_payFor u_refused u_owned u_litIn u_shapes u_readAt u_meant u_readSo)) (is := [4, 5, 6, 7, 8, 9, 10, 11, 12, 13, 14]) cV_X4_114 (ok_X5_isWindowAt h107) ⟨rfl, rfl, Nat.le_of_ble_eq_true rfl, Nat.le_of_ble_eq_true rfl⟩ dX4_tellItem_107 rfl rfl rfl rfl rfl ⟨rfl, by decide, by decide⟩ (by rintro _ _ ⟨-, rfl⟩; rfl) (Nat.le_of_ble_eq_true rfl) ⟨Nat.le_of_ble_eq_true rfl, Nat.le_of_ble_eq_true rfl⟩ (pc' := 110) rfl ?_
  rintro rv w ⟨rfl, rfl⟩
  show mm_Wp _ _ _ _ 110 [(6, .int x25), (5, .int x15), (4, .int x5), (0, .ref 0), (1, .ref 4), (2, .int v2), (3, .int v3)] [.int t107] (W_X4_X5 q_length q_items q_place q_token q_tokenAt q_tokenValue q_bytes q_words q_numbers u_wide u_high u_slackNow u_tenants u_letters u_readings u_kinds u_painOf u_payFor u_refused u_owned u_litIn u_shapes u_readAt u_meant u_readSo)
  clear h107
  refine mm_if_ne (tgt := 116) dX4_tellItem_110 (by decide) (pc' := 113) rfl (fun c => ?_) (fun c => ?_)
  · replace h := mm_if h c
    clear c
    refine mm_bipush dX4_tellItem_116 kb_12 (pc' := 118) rfl ?_
    refine mm_iload 0 dX4_tellItem_118 rfl (pc' := 120) rfl ?_
    refine mm_imul dX4_tellItem_120 (pc' := 121) rfl ?_
    refine mm_iload 1 dX4_tellItem_121 rfl (pc' := 123) rfl ?_
    refine mm_iadd dX4_tellItem_123 (pc' := 124) rfl ?_
    refine mm_topi (fun y124 e => ?_)
    replace h := mm_let_of h y124 e
    clear e
    refine mm_istore dX4_tellItem_124 (by decide) (l' := [(7, .int y124), (6, .int x25), (5, .int x15), (4, .int x5), (0, .ref 0), (1, .ref 4), (2, .int v2), (3, .int v3)]) rfl (pc' := 126) rfl ?_
    refine mm_iload_n 6 dX4_tellItem_126 rfl rfl (pc' := 127) rfl ?_
    refine mm_iconst dX4_tellItem_127 ki_2 (pc' := 128) rfl ?_
    refine mm_icmp_ne (tgt := 142) dX4_tellItem_128 (by decide) (pc' := 131) rfl (fun c => ?_) (fun c => ?_)
    · replace h := mm_if h c
      clear c
      refine mm_aload_n 5 dX4_tellItem_142 rfl rfl (pc' := 143) rfl ?_
      refine mm_iload 3 dX4_tellItem_143 rfl (pc' := 145) rfl ?_
      refine mm_iload 0 dX4_tellItem_145 rfl (pc' := 147) rfl ?_
      refine mm_iconst dX4_tellItem_147 ki_1 (pc' := 148) rfl ?_
      obtain ⟨t148, h148, h⟩ := mm_bd h
      refine mm_callV (As := [.int x5, .int y124, .int (1 : Int32)]) (rest := []) (av := [.ref 0, .int x5, .int y124, .int (1 : Int32)]) (wc := (W_X5 u_wide u_high u_slackNow u_tenants u_letters u_readings u_kinds u_painOf u_payFor u_refused u_owned u_litIn u_shapes u_readAt u_meant u_readSo)) (is := [4, 5, 6, 7, 8, 9, 10, 11, 12, 13, 14]) cV_X4_121 (ok_X5_setLit h148) ⟨rfl, rfl, Nat.le_of_ble_eq_true rfl, Nat.le_of_ble_eq_true rfl⟩ dX4_tellItem_148 rfl rfl rfl rfl rfl ⟨rfl, by decide, by decide⟩ (by rintro _ _ ⟨-, rfl⟩; rfl) (Nat.le_of_ble_eq_true rfl) ⟨Nat.le_of_ble_eq_true rfl, Nat.le_of_ble_eq_true rfl⟩ (pc' := 151) rfl ?_
      rintro rv w ⟨rfl, rfl⟩
      show mm_Wp _ _ _ _ 151 [(7, .int y124), (6, .int x25), (5, .int x15), (4, .int x5), (0, .ref 0), (1, .ref 4), (2, .int v2), (3, .int v3)] [.int t148.1] (W_X4_X5 q_length q_items q_place q_token q_tokenAt q_tokenValue q_bytes q_words q_numbers u_wide u_high u_slackNow u_tenants u_letters u_readings u_kinds u_painOf u_payFor u_refused u_owned t148.2 u_shapes u_readAt u_meant u_readSo)
      clear h148
      have h9 := Option.some.inj h
      subst h9
      exact mm_iret rfl dX4_tellItem_151 ⟨rfl, rfl⟩
    · replace h := mm_it h c
      clear c
      refine mm_aload_n 5 dX4_tellItem_131 rfl rfl (pc' := 132) rfl ?_
      refine mm_iload 0 dX4_tellItem_132 rfl (pc' := 134) rfl ?_
      refine mm_iload 3 dX4_tellItem_134 rfl (pc' := 136) rfl ?_
      obtain ⟨t136, h136, h⟩ := mm_bd h
      refine mm_callV (As := [.int y124, .int x5]) (rest := []) (av := [.ref 0, .int y124, .int x5]) (wc := (W_X5 u_wide u_high u_slackNow u_tenants u_letters u_readings u_kinds u_painOf u_payFor u_refused u_owned u_litIn u_shapes u_readAt u_meant u_readSo)) (is := [4, 5, 6, 7, 8, 9, 10, 11, 12, 13, 14]) cV_X4_118 (ok_X5_setOwner h136) ⟨rfl, rfl, Nat.le_of_ble_eq_true rfl, Nat.le_of_ble_eq_true rfl⟩ dX4_tellItem_136 rfl rfl rfl rfl rfl ⟨rfl, by decide, by decide⟩ (by rintro _ _ ⟨-, rfl⟩; rfl) (Nat.le_of_ble_eq_true rfl) ⟨Nat.le_of_ble_eq_true rfl, Nat.le_of_ble_eq_true rfl⟩ (pc' := 139) rfl ?_
      rintro rv w ⟨rfl, rfl⟩
      show mm_Wp _ _ _ _ 139 [(7, .int y124), (6, .int x25), (5, .int x15), (4, .int x5), (0, .ref 0), (1, .ref 4), (2, .int v2), (3, .int v3)] [.int t136.1] (W_X4_X5 q_length q_items q_place q_token q_tokenAt q_tokenValue q_bytes q_words q_numbers u_wide u_high u_slackNow u_tenants u_letters u_readings u_kinds u_painOf u_payFor u_refused t136.2 u_litIn u_shapes u_readAt u_meant u_readSo)
      clear h136
      refine mm_goto (tgt := 151) dX4_tellItem_139 (by decide) ?_
      have h9 := Option.some.inj h
      subst h9
      exact mm_iret rfl dX4_tellItem_151 ⟨rfl, rfl⟩
  · replace h := mm_it h c
    clear c
    refine mm_bipush dX4_tellItem_113 kb_m2 (pc' := 115) rfl ?_
    have h9 := Option.some.inj h
    subst h9
    exact mm_iret rfl dX4_tellItem_115 ⟨rfl, rfl⟩

def P_X4_tellTo (q_length : Int32) (q_items : Int32) (q_place : Int32) (q_token : Int32) (q_tokenAt : Int32) (q_tokenValue : Int32) (q_bytes : Nat → Int32) (q_words : Nat → Int32) (q_numbers : Nat → Int32) (u_readAt : Nat → Int32) (u_meant : Nat → Int32) (u_readSo : Nat → Int32) (r : Int32 × Int32 × Int32 × Int32 × Int32 × Int32 × Int32 × (Nat → Int32) × (Nat → Int32) × (Nat → Int32) × (Nat → Int32) × (Nat → Int64) × (Nat → Int64) × (Nat → Int32)) : Option Value → mm_W → Prop := fun rv w => rv = some (.int r.1) ∧ w = (W_X4_X5 q_length q_items q_place q_token q_tokenAt q_tokenValue q_bytes q_words q_numbers r.2.1 r.2.2.1 r.2.2.2.1 r.2.2.2.2.1 r.2.2.2.2.2.1 r.2.2.2.2.2.2.1 r.2.2.2.2.2.2.2.1 r.2.2.2.2.2.2.2.2.1 r.2.2.2.2.2.2.2.2.2.1 r.2.2.2.2.2.2.2.2.2.2.1 r.2.2.2.2.2.2.2.2.2.2.2.1 r.2.2.2.2.2.2.2.2.2.2.2.2.1 r.2.2.2.2.2.2.2.2.2.2.2.2.2 u_readAt u_meant u_readSo)
def X4_tellTo_J43 (fu : Nat)  (q_items : Int32) (q_words : Nat → Int32) (q_numbers : Nat → Int32) (u_wide : Int32) (u_high : Int32) (u_slackNow : Int32) (u_tenants : Int32) (u_letters : Int32) (u_readings : Int32) (u_kinds : Nat → Int32) (u_painOf : Nat → Int32) (u_payFor : Nat → Int32) (u_refused : Nat → Int32) (u_owned : Nat → Int64) (u_litIn : Nat → Int64) (u_shapes : Nat → Int32) (v2 : Int32)  : Option (Int32 × Int32 × Int32 × Int32 × Int32 × Int32 × Int32 × (Nat → Int32) × (Nat → Int32) × (Nat → Int32) × (Nat → Int32) × (Nat → Int64) × (Nat → Int64) × (Nat → Int32)) := some (v2, u_wide, u_high, u_slackNow, u_tenants, u_letters, u_readings, u_kinds, u_painOf, u_payFor, u_refused, u_owned, u_litIn, u_shapes)
set_option maxHeartbeats 4000000 in
set_option maxRecDepth 100000 in
theorem s_X4_tellTo_J43 {fu : Nat} {q_length : Int32} {q_items : Int32} {q_place : Int32} {q_token : Int32} {q_tokenAt : Int32} {q_tokenValue : Int32} {q_bytes : Nat → Int32} {q_words : Nat → Int32} {q_numbers : Nat → Int32} {u_wide : Int32} {u_high : Int32} {u_slackNow : Int32} {u_tenants : Int32} {u_letters : Int32} {u_readings : Int32} {u_kinds : Nat → Int32} {u_painOf : Nat → Int32} {u_payFor : Nat → Int32} {u_refused : Nat → Int32} {u_owned : Nat → Int64} {u_litIn : Nat → Int64} {u_shapes : Nat → Int32} {u_readAt : Nat → Int32} {u_meant : Nat → Int32} {u_readSo : Nat → Int32} {r : Int32 × Int32 × Int32 × Int32 × Int32 × Int32 × Int32 × (Nat → Int32) × (Nat → Int32) × (Nat → Int32) × (Nat → Int32) × (Nat → Int64) × (Nat → Int64) × (Nat → Int32)} {v2 : Int32} (h : X4_tellTo_J43 fu q_items q_words q_numbers u_wide u_high u_slackNow u_tenants u_letters u_readings u_kinds u_painOf u_payFor u_refused u_owned u_litIn u_shapes v2 = some r) : mm_Wp mX4_tellTo (mm_R (P_X4_tellTo q_length q_items q_place q_token q_tokenAt q_tokenValue q_bytes q_words q_numbers u_readAt u_meant u_readSo r)) 0 0 43 [(2, .int v2)] [] (W_X4_X5 q_length q_items q_place q_token q_tokenAt q_tokenValue q_bytes q_words q_numbers u_wide u_high u_slackNow u_tenants u_letters u_readings u_kinds u_painOf u_payFor u_refused u_owned u_litIn u_shapes u_readAt u_meant u_readSo) := by
  rw [X4_tellTo_J43] at h
  refine mm_iload_n 0 dX4_tellTo_43 rfl rfl (pc' := 44) rfl ?_
  have h9 := Option.some.inj h
  subst h9
  exact mm_iret rfl dX4_tellTo_44 ⟨rfl, rfl⟩
def X4_tellTo_L2 (fu : Nat)  (q_items : Int32) (q_words : Nat → Int32) (q_numbers : Nat → Int32)  : Nat → Int32 → Int32 → Int32 → Int32 → Int32 → Int32 → (Nat → Int32) → (Nat → Int32) → (Nat → Int32) → (Nat → Int32) → (Nat → Int64) → (Nat → Int64) → (Nat → Int32) → Int32 → Option (Int32 × Int32 × Int32 × Int32 × Int32 × Int32 × Int32 × (Nat → Int32) × (Nat → Int32) × (Nat → Int32) × (Nat → Int32) × (Nat → Int64) × (Nat → Int64) × (Nat → Int32))
  | 0, _, _, _, _, _, _, _, _, _, _, _, _, _, _ => none
  | n + 1, u_wide, u_high, u_slackNow, u_tenants, u_letters, u_readings, u_kinds, u_painOf, u_payFor, u_refused, u_owned, u_litIn, u_shapes, v2 => if q_items ≤ v2 then (some ((-1 : Int32), u_wide, u_high, u_slackNow, u_tenants, u_letters, u_readings, u_kinds, u_painOf, u_payFor, u_refused, u_owned, u_litIn, u_shapes)) else (mm_rd q_words 100 v2 fun x17 => (f_X4_tellItem fu q_numbers u_wide u_high u_slackNow u_tenants u_letters u_readings u_kinds u_painOf u_payFor u_refused u_owned u_litIn u_shapes x17 (v2 * (3 : Int32))).bind fun t21 => if t21.1 = (-2 : Int32) then (X4_tellTo_J43 fu q_items q_words q_numbers t21.2.1 t21.2.2.1 t21.2.2.2.1 t21.2.2.2.2.1 t21.2.2.2.2.2.1 t21.2.2.2.2.2.2.1 t21.2.2.2.2.2.2.2.1 t21.2.2.2.2.2.2.2.2.1 t21.2.2.2.2.2.2.2.2.2.1 t21.2.2.2.2.2.2.2.2.2.2.1 t21.2.2.2.2.2.2.2.2.2.2.2.1 t21.2.2.2.2.2.2.2.2.2.2.2.2.1 t21.2.2.2.2.2.2.2.2.2.2.2.2.2 v2) else (if t21.1 = (-3 : Int32) then (X4_tellTo_J43 fu q_items q_words q_numbers t21.2.1 t21.2.2.1 t21.2.2.2.1 t21.2.2.2.2.1 t21.2.2.2.2.2.1 t21.2.2.2.2.2.2.1 t21.2.2.2.2.2.2.2.1 t21.2.2.2.2.2.2.2.2.1 t21.2.2.2.2.2.2.2.2.2.1 t21.2.2.2.2.2.2.2.2.2.2.1 t21.2.2.2.2.2.2.2.2.2.2.2.1 t21.2.2.2.2.2.2.2.2.2.2.2.2.1 t21.2.2.2.2.2.2.2.2.2.2.2.2.2 v2) else (if t21.1 = (-4 : Int32) then (X4_tellTo_J43 fu q_items q_words q_numbers t21.2.1 t21.2.2.1 t21.2.2.2.1 t21.2.2.2.2.1 t21.2.2.2.2.2.1 t21.2.2.2.2.2.2.1 t21.2.2.2.2.2.2.2.1 t21.2.2.2.2.2.2.2.2.1 t21.2.2.2.2.2.2.2.2.2.1 t21.2.2.2.2.2.2.2.2.2.2.1 t21.2.2.2.2.2.2.2.2.2.2.2.1 t21.2.2.2.2.2.2.2.2.2.2.2.2.1 t21.2.2.2.2.2.2.2.2.2.2.2.2.2 v2) else ((X4_tellTo_L2 fu q_items q_words q_numbers n) t21.2.1 t21.2.2.1 t21.2.2.2.1 t21.2.2.2.2.1 t21.2.2.2.2.2.1 t21.2.2.2.2.2.2.1 t21.2.2.2.2.2.2.2.1 t21.2.2.2.2.2.2.2.2.1 t21.2.2.2.2.2.2.2.2.2.1 t21.2.2.2.2.2.2.2.2.2.2.1 t21.2.2.2.2.2.2.2.2.2.2.2.1 t21.2.2.2.2.2.2.2.2.2.2.2.2.1 t21.2.2.2.2.2.2.2.2.2.2.2.2.2 (v2 + (1 : Int32))))))
set_option maxHeartbeats 4000000 in
set_option maxRecDepth 100000 in
theorem s_X4_tellTo_L2 {fu : Nat} {q_length : Int32} {q_items : Int32} {q_place : Int32} {q_token : Int32} {q_tokenAt : Int32} {q_tokenValue : Int32} {q_bytes : Nat → Int32} {q_words : Nat → Int32} {q_numbers : Nat → Int32} {u_readAt : Nat → Int32} {u_meant : Nat → Int32} {u_readSo : Nat → Int32} {r : Int32 × Int32 × Int32 × Int32 × Int32 × Int32 × Int32 × (Nat → Int32) × (Nat → Int32) × (Nat → Int32) × (Nat → Int32) × (Nat → Int64) × (Nat → Int64) × (Nat → Int32)} : ∀ (n : Nat) (u_wide : Int32) (u_high : Int32) (u_slackNow : Int32) (u_tenants : Int32) (u_letters : Int32) (u_readings : Int32) (u_kinds : Nat → Int32) (u_painOf : Nat → Int32) (u_payFor : Nat → Int32) (u_refused : Nat → Int32) (u_owned : Nat → Int64) (u_litIn : Nat → Int64) (u_shapes : Nat → Int32) (v2 : Int32), X4_tellTo_L2 fu q_items q_words q_numbers n u_wide u_high u_slackNow u_tenants u_letters u_readings u_kinds u_painOf u_payFor u_refused u_owned u_litIn u_shapes v2 = some r → mm_Wp mX4_tellTo (mm_R (P_X4_tellTo q_length q_items q_place q_token q_tokenAt q_tokenValue q_bytes q_words q_numbers u_readAt u_meant u_readSo r)) 0 0 2 [(0, .ref 0), (1, .ref 4), (2, .int v2)] [] (W_X4_X5 q_length q_items q_place q_token q_tokenAt q_tokenValue q_bytes q_words q_numbers u_wide u_high u_slackNow u_tenants u_letters u_readings u_kinds u_painOf u_payFor u_refused u_owned u_litIn u_shapes u_readAt u_meant u_readSo) := by
  intro n
  induction n with
  | zero =>
    intro u_wide u_high u_slackNow u_tenants u_letters u_readings u_kinds u_painOf u_payFor u_refused u_owned u_litIn u_shapes v2 h
    rw [X4_tellTo_L2] at h
    cases h
  | succ n hr2 =>
    intro u_wide u_high u_slackNow u_tenants u_letters u_readings u_kinds u_painOf u_payFor u_refused u_owned u_litIn u_shapes v2 h
    rw [X4_tellTo_L2] at h
    refine mm_iload_n 2 dX4_tellTo_2 rfl rfl (pc' := 3) rfl ?_
    refine mm_aload_n 0 dX4_tellTo_3 rfl rfl (pc' := 4) rfl ?_
    refine mm_getf fG_X4_15 dX4_tellTo_4 rfl rfl (pc' := 7) rfl ?_
    refine mm_icmp_ge (tgt := 51) dX4_tellTo_7 (by decide) (pc' := 10) rfl (fun c => ?_) (fun c => ?_)
    · replace h := mm_it h c
      clear c
      refine mm_iconst dX4_tellTo_51 ki_m1 (pc' := 52) rfl ?_
      have h9 := Option.some.inj h
      subst h9
      exact mm_iret rfl dX4_tellTo_52 ⟨rfl, rfl⟩
    · replace h := mm_if h c
      clear c
      refine mm_aload_n 0 dX4_tellTo_10 rfl rfl (pc' := 11) rfl ?_
      refine mm_aload_n 1 dX4_tellTo_11 rfl rfl (pc' := 12) rfl ?_
      refine mm_aload_n 0 dX4_tellTo_12 rfl rfl (pc' := 13) rfl ?_
      refine mm_getf fG_X4_22 dX4_tellTo_13 rfl rfl (pc' := 16) rfl ?_
      refine mm_iload_n 2 dX4_tellTo_16 rfl rfl (pc' := 17) rfl ?_
      obtain ⟨x17, c17, e17, h⟩ := mm_rd_of h
      refine mm_iald dX4_tellTo_17 rfl c17 e17 (pc' := 18) rfl ?_
      clear c17 e17
      refine mm_iload_n 2 dX4_tellTo_18 rfl rfl (pc' := 19) rfl ?_
      refine mm_iconst dX4_tellTo_19 ki_3 (pc' := 20) rfl ?_
      refine mm_imul dX4_tellTo_20 (pc' := 21) rfl ?_
      obtain ⟨t21, h21, h⟩ := mm_bd h
      refine mm_call0 (As := [.ref 4, .int x17, .int (v2 * (3 : Int32))]) (rest := []) cV_X4_94 (ok_X4_tellItem h21) ⟨rfl, rfl, Nat.le_of_ble_eq_true rfl, Nat.le_of_ble_eq_true rfl⟩ dX4_tellTo_21 rfl rfl rfl rfl (by rintro _ _ ⟨-, rfl⟩; rfl) (Nat.le_of_ble_eq_true rfl) ⟨Nat.le_of_ble_eq_true rfl, Nat.le_of_ble_eq_true rfl⟩ (pc' := 24) rfl ?_
      rintro rv w ⟨rfl, rfl⟩
      show mm_Wp _ _ _ _ 24 [(0, .ref 0), (1, .ref 4), (2, .int v2)] [.int t21.1] (W_X4_X5 q_length q_items q_place q_token q_tokenAt q_tokenValue q_bytes q_words q_numbers t21.2.1 t21.2.2.1 t21.2.2.2.1 t21.2.2.2.2.1 t21.2.2.2.2.2.1 t21.2.2.2.2.2.2.1 t21.2.2.2.2.2.2.2.1 t21.2.2.2.2.2.2.2.2.1 t21.2.2.2.2.2.2.2.2.2.1 t21.2.2.2.2.2.2.2.2.2.2.1 t21.2.2.2.2.2.2.2.2.2.2.2.1 t21.2.2.2.2.2.2.2.2.2.2.2.2.1 t21.2.2.2.2.2.2.2.2.2.2.2.2.2 u_readAt u_meant u_readSo)
      clear h21
      refine mm_istore_n dX4_tellTo_24 rfl (by decide) (l' := [(3, .int t21.1), (0, .ref 0), (1, .ref 4), (2, .int v2)]) rfl (pc' := 25) rfl ?_
      refine mm_iload_n 0 dX4_tellTo_25 rfl rfl (pc' := 26) rfl ?_
      refine mm_bipush dX4_tellTo_26 kb_m2 (pc' := 28) rfl ?_
      refine mm_icmp_eq (tgt := 43) dX4_tellTo_28 (by decide) (pc' := 31) rfl (fun c => ?_) (fun c => ?_)
      · replace h := mm_it h c
        clear c
        exact mm_sub [3] rfl (s_X4_tellTo_J43  h)
      · replace h := mm_if h c
        clear c
        refine mm_iload_n 0 dX4_tellTo_31 rfl rfl (pc' := 32) rfl ?_
        refine mm_bipush dX4_tellTo_32 kb_m3 (pc' := 34) rfl ?_
        refine mm_icmp_eq (tgt := 43) dX4_tellTo_34 (by decide) (pc' := 37) rfl (fun c => ?_) (fun c => ?_)
        · replace h := mm_it h c
          clear c
          exact mm_sub [3] rfl (s_X4_tellTo_J43  h)
        · replace h := mm_if h c
          clear c
          refine mm_iload_n 0 dX4_tellTo_37 rfl rfl (pc' := 38) rfl ?_
          refine mm_bipush dX4_tellTo_38 kb_m4 (pc' := 40) rfl ?_
          refine mm_icmp_ne (tgt := 45) dX4_tellTo_40 (by decide) (pc' := 43) rfl (fun c => ?_) (fun c => ?_)
          · replace h := mm_if h c
            clear c
            refine mm_iinc 3 dX4_tellTo_45 rfl ki_1 (by decide) (l' := [(2, .int (v2 + (1 : Int32))), (3, .int t21.1), (0, .ref 0), (1, .ref 4)]) rfl (pc' := 48) rfl ?_
            refine mm_goto (tgt := 2) dX4_tellTo_48 (by decide) ?_
            exact mm_sub [2, 3, 0] rfl (hr2 _ _ _ _ _ _ _ _ _ _ _ _ _ _ h)
          · replace h := mm_it h c
            clear c
            exact mm_sub [3] rfl (s_X4_tellTo_J43  h)
def f_X4_tellTo (fu : Nat) (q_items : Int32) (q_words : Nat → Int32) (q_numbers : Nat → Int32) (u_wide : Int32) (u_high : Int32) (u_slackNow : Int32) (u_tenants : Int32) (u_letters : Int32) (u_readings : Int32) (u_kinds : Nat → Int32) (u_painOf : Nat → Int32) (u_payFor : Nat → Int32) (u_refused : Nat → Int32) (u_owned : Nat → Int64) (u_litIn : Nat → Int64) (u_shapes : Nat → Int32) : Option (Int32 × Int32 × Int32 × Int32 × Int32 × Int32 × Int32 × (Nat → Int32) × (Nat → Int32) × (Nat → Int32) × (Nat → Int32) × (Nat → Int64) × (Nat → Int64) × (Nat → Int32)) := X4_tellTo_L2 fu q_items q_words q_numbers fu u_wide u_high u_slackNow u_tenants u_letters u_readings u_kinds u_painOf u_payFor u_refused u_owned u_litIn u_shapes (0 : Int32)
set_option maxHeartbeats 4000000 in
set_option maxRecDepth 100000 in
theorem ok_X4_tellTo {fu : Nat} {q_length : Int32} {q_items : Int32} {q_place : Int32} {q_token : Int32} {q_tokenAt : Int32} {q_tokenValue : Int32} {q_bytes : Nat → Int32} {q_words : Nat → Int32} {q_numbers : Nat → Int32} {u_wide : Int32} {u_high : Int32} {u_slackNow : Int32} {u_tenants : Int32} {u_letters : Int32} {u_readings : Int32} {u_kinds : Nat → Int32} {u_painOf : Nat → Int32} {u_payFor : Nat → Int32} {u_refused : Nat → Int32} {u_owned : Nat → Int64} {u_litIn : Nat → Int64} {u_shapes : Nat → Int32} {u_readAt : Nat → Int32} {u_meant : Nat → Int32} {u_readSo : Nat → Int32} {r : Int32 × Int32 × Int32 × Int32 × Int32 × Int32 × Int32 × (Nat → Int32) × (Nat → Int32) × (Nat → Int32) × (Nat → Int32) × (Nat → Int64) × (Nat → Int64) × (Nat → Int32)} (h : f_X4_tellTo fu q_items q_words q_numbers u_wide u_high u_slackNow u_tenants u_letters u_readings u_kinds u_painOf u_payFor u_refused u_owned u_litIn u_shapes = some r) : mm_Ok mX4_tellTo [.ref 0, .ref 4] (W_X4_X5 q_length q_items q_place q_token q_tokenAt q_tokenValue q_bytes q_words q_numbers u_wide u_high u_slackNow u_tenants u_letters u_readings u_kinds u_painOf u_payFor u_refused u_owned u_litIn u_shapes u_readAt u_meant u_readSo) (P_X4_tellTo q_length q_items q_place q_token q_tokenAt q_tokenValue q_bytes q_words q_numbers u_readAt u_meant u_readSo r) := by
  rw [f_X4_tellTo] at h
  refine mm_Ok.of pn_X4 (l := [(0, .ref 0), (1, .ref 4)]) rfl (Nat.le_of_ble_eq_true rfl) ?_
  refine mm_iconst dX4_tellTo_0 ki_0 (pc' := 1) rfl ?_
  refine mm_istore_n dX4_tellTo_1 rfl (by decide) (l' := [(2, .int (0 : Int32)), (0, .ref 0), (1, .ref 4)]) rfl (pc' := 2) rfl ?_
  exact mm_sub [1, 2, 0] rfl (s_X4_tellTo_L2  _ _ _ _ _ _ _ _ _ _ _ _ _ _ _ h)
