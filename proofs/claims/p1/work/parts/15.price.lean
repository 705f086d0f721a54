/-- how many terms a sign takes -/
def et_pt (x : Int32) : Int32 := if x = 33 then 1 else if x = 42 then 2 else if x = 43 then 2 else if x = 45 then 1 else if x = 94 then 2 else if x = 120 then 0 else if x = 121 then 0 else if x = 122 then 0 else if 48 ≤ x ∧ x ≤ 57 then 0 else -1
set_option maxHeartbeats 4000000 in
set_option maxRecDepth 100000 in
theorem c_S_parts {sc : et_X} {h : Nat → et_MC} {d n : Nat} (x : Int32) : et_Cn sc Y_S_parts d [.int x] h n 0 0 (fun r h' n' => r = .inl (some (.int (et_pt x))) ∧ n' = n ∧ h' = h) := by
  refine et_Cn.of 0 rfl rfl (by decide) mS_S_parts.1 ?_
  refine et_iload_n (i := 0) d_S_parts_0 rfl rfl ?_
  by_cases e33 : x = 33
  · subst e33
    refine et_lookup (tgt := 78) d_S_parts_1 (by decide) (show _ = (77 : Int) by decide) (by decide) ?_
    refine et_iconst (v := 1) d_S_parts_78 (by decide) ?_
    exact et_iret d_S_parts_79 rfl (Nat.le_of_ble_eq_true rfl) (Nat.le_of_ble_eq_true rfl) ⟨by decide, rfl, rfl⟩
  by_cases e42 : x = 42
  · subst e42
    refine et_lookup (tgt := 76) d_S_parts_1 (by decide) (show _ = (75 : Int) by decide) (by decide) ?_
    refine et_iconst (v := 2) d_S_parts_76 (by decide) ?_
    exact et_iret d_S_parts_77 rfl (Nat.le_of_ble_eq_true rfl) (Nat.le_of_ble_eq_true rfl) ⟨by decide, rfl, rfl⟩
  by_cases e43 : x = 43
  · subst e43
    refine et_lookup (tgt := 76) d_S_parts_1 (by decide) (show _ = (75 : Int) by decide) (by decide) ?_
    refine et_iconst (v := 2) d_S_parts_76 (by decide) ?_
    exact et_iret d_S_parts_77 rfl (Nat.le_of_ble_eq_true rfl) (Nat.le_of_ble_eq_true rfl) ⟨by decide, rfl, rfl⟩
  by_cases e45 : x = 45
  · subst e45
    refine et_lookup (tgt := 78) d_S_parts_1 (by decide) (show _ = (77 : Int) by decide) (by decide) ?_
    refine et_iconst (v := 1) d_S_parts_78 (by decide) ?_
    exact et_iret d_S_parts_79 rfl (Nat.le_of_ble_eq_true rfl) (Nat.le_of_ble_eq_true rfl) ⟨by decide, rfl, rfl⟩
  by_cases e94 : x = 94
  · subst e94
    refine et_lookup (tgt := 76) d_S_parts_1 (by decide) (show _ = (75 : Int) by decide) (by decide) ?_
    refine et_iconst (v := 2) d_S_parts_76 (by decide) ?_
    exact et_iret d_S_parts_77 rfl (Nat.le_of_ble_eq_true rfl) (Nat.le_of_ble_eq_true rfl) ⟨by decide, rfl, rfl⟩
  by_cases e120 : x = 120
  · subst e120
    refine et_lookup (tgt := 80) d_S_parts_1 (by decide) (show _ = (79 : Int) by decide) (by decide) ?_
    refine et_iconst (v := 0) d_S_parts_80 (by decide) ?_
    exact et_iret d_S_parts_81 rfl (Nat.le_of_ble_eq_true rfl) (Nat.le_of_ble_eq_true rfl) ⟨by decide, rfl, rfl⟩
  by_cases e121 : x = 121
  · subst e121
    refine et_lookup (tgt := 80) d_S_parts_1 (by decide) (show _ = (79 : Int) by decide) (by decide) ?_
    refine et_iconst (v := 0) d_S_parts_80 (by decide) ?_
    exact et_iret d_S_parts_81 rfl (Nat.le_of_ble_eq_true rfl) (Nat.le_of_ble_eq_true rfl) ⟨by decide, rfl, rfl⟩
  by_cases e122 : x = 122
  · subst e122
    refine et_lookup (tgt := 80) d_S_parts_1 (by decide) (show _ = (79 : Int) by decide) (by decide) ?_
    refine et_iconst (v := 0) d_S_parts_80 (by decide) ?_
    exact et_iret d_S_parts_81 rfl (Nat.le_of_ble_eq_true rfl) (Nat.le_of_ble_eq_true rfl) ⟨by decide, rfl, rfl⟩
  refine et_lookup (tgt := 82) d_S_parts_1 (by decide) (off := 81) ((lv_osw (k := 33) e33 rfl).trans ((lv_osw (k := 42) e42 rfl).trans ((lv_osw (k := 43) e43 rfl).trans ((lv_osw (k := 45) e45 rfl).trans ((lv_osw (k := 94) e94 rfl).trans ((lv_osw (k := 120) e120 rfl).trans ((lv_osw (k := 121) e121 rfl).trans ((lv_osw (k := 122) e122 rfl).trans rfl)))))))) (by decide) ?_
  have ept : et_pt x = if 48 ≤ x ∧ x ≤ 57 then 0 else -1 := by simp [et_pt, e33, e42, e43, e45, e94, e120, e121, e122]
  rw [ept]
  refine et_iload_n (i := 0) d_S_parts_82 rfl rfl ?_
  refine et_bipush (v := 48) d_S_parts_83 (by decide) ?_
  refine et_icmp_lt (tgt := 98) d_S_parts_85 (by decide) (fun q1 => ?_) (fun q1 => ?_)
  · refine et_iconst (v := (-1)) d_S_parts_98 (by decide) ?_
    exact et_iret d_S_parts_99 rfl (Nat.le_of_ble_eq_true rfl) (Nat.le_of_ble_eq_true rfl) ⟨by rw [if_neg (fun z => absurd z.1 (Int32.not_le.mpr q1))], rfl, rfl⟩
  refine et_iload_n (i := 0) d_S_parts_88 rfl rfl ?_
  refine et_bipush (v := 57) d_S_parts_89 (by decide) ?_
  refine et_icmp_gt (tgt := 98) d_S_parts_91 (by decide) (fun q2 => ?_) (fun q2 => ?_)
  · refine et_iconst (v := (-1)) d_S_parts_98 (by decide) ?_
    exact et_iret d_S_parts_99 rfl (Nat.le_of_ble_eq_true rfl) (Nat.le_of_ble_eq_true rfl) ⟨by rw [if_neg (fun z => absurd z.2 (Int32.not_le.mpr q2))], rfl, rfl⟩
  refine et_iconst (v := 0) d_S_parts_94 (by decide) ?_
  refine et_goto (tgt := 99) d_S_parts_95 (by decide) ?_
  exact et_iret d_S_parts_99 rfl (Nat.le_of_ble_eq_true rfl) (Nat.le_of_ble_eq_true rfl) ⟨by rw [if_pos ⟨Int32.not_lt.mp q1, Int32.not_lt.mp q2⟩], rfl, rfl⟩
theorem et_pt_in {x : Int32} (h : ¬ et_pt x = -1) : vp_in x 127 := by
  by_cases e33 : x = 33
  · subst e33; exact (vp_in_iff.mpr ⟨by decide, by decide⟩)
  by_cases e42 : x = 42
  · subst e42; exact (vp_in_iff.mpr ⟨by decide, by decide⟩)
  by_cases e43 : x = 43
  · subst e43; exact (vp_in_iff.mpr ⟨by decide, by decide⟩)
  by_cases e45 : x = 45
  · subst e45; exact (vp_in_iff.mpr ⟨by decide, by decide⟩)
  by_cases e94 : x = 94
  · subst e94; exact (vp_in_iff.mpr ⟨by decide, by decide⟩)
  by_cases e120 : x = 120
  · subst e120; exact (vp_in_iff.mpr ⟨by decide, by decide⟩)
  by_cases e121 : x = 121
  · subst e121; exact (vp_in_iff.mpr ⟨by decide, by decide⟩)
  by_cases e122 : x = 122
  · subst e122; exact (vp_in_iff.mpr ⟨by decide, by decide⟩)
  by_cases e : 48 ≤ x ∧ x ≤ 57
  · have c1 := et_le_i e.1
    have c2 := et_le_i e.2
    have a1 : (48 : Int32).toInt = 48 := rfl
    have a2 : (57 : Int32).toInt = 57 := rfl
    exact vp_in_iff.mpr ⟨by omega, by omega⟩
  · exact absurd (by simp [et_pt, e33, e42, e43, e45, e94, e120, e121, e122, e]) h
set_option maxHeartbeats 4000000 in
set_option maxRecDepth 100000 in
theorem c_E_price {sc : et_X} {h : Nat → et_MC} {d n : Nat} {rc : Int32} {g : Nat → Int32} (x y : Int32) (f0 : h 0 = .inr (6, [.ref 1, .ref 3, .ref 10, .ref 13, .ref 17, .ref 63, .int rc])) (h17 : h 17 = .inr (0, [.ref 18, .ref 19, .ref 20, .ref 21, .ref 3, .ref 62])) (h18 : h 18 = .inl (0, 127, .inl g)) : et_Cn sc Y_E_price (d + 1) [.ref 0, .int x, .int y] h n 1 6 (fun r h' n' => (¬ (¬ et_pt x = -1 ∧ 1 ≤ y ∧ y ≤ 1000000000) ∧ r = .inr 0 ∧ n' = n + 1 ∧ h' = va_up h n et_void) ∨ ((¬ et_pt x = -1 ∧ 1 ≤ y ∧ y ≤ 1000000000) ∧ r = .inl none ∧ n' = n ∧ h' = va_up h 18 (.inl (0, 127, .inl (upd g x.toNatClampNeg y))))) := by
  refine et_Cn.of 0 rfl rfl (by decide) mV_E_price.1 ?_
  refine et_iload_n (i := 1) d_E_price_0 rfl rfl ?_
  refine et_invS mS_S_parts (As := [_]) rfl d_E_price_1 lk_E_128 len_S_parts (Nat.le_of_ble_eq_true rfl) (c_S_parts (d := d) x) (Nat.le_refl _) (Nat.le_of_ble_eq_true rfl) (Nat.le_of_ble_eq_true rfl) (fun v h' n' hp => ?_) (fun x h' n' hp => by cases hp.1)
  obtain ⟨hv, rfl, rfl⟩ := hp
  cases hv
  refine et_iconst (v := (-1)) d_E_price_4 (by decide) ?_
  refine et_icmp_ne (tgt := 18) d_E_price_5 (by decide) (fun q1 => ?_) (fun q1 => ?_)
  rotate_left
  · exact et_throw (x := 0) "no sign of a term" d_E_price_8 d_E_price_11 d_E_price_12 d_E_price_14 d_E_price_17 (by decide +kernel) cl_E_79 ini_IllegalArgumentException ins_IllegalArgumentException thr_0 (by decide +kernel) rfl (Nat.le_of_ble_eq_true rfl) (Nat.le_of_ble_eq_true rfl) (Nat.le_of_ble_eq_true rfl) (Or.inl ⟨fun z => z.1 q1, rfl, rfl, rfl⟩)
  refine et_iload_n (i := 2) d_E_price_18 rfl rfl ?_
  refine et_iconst (v := 1) d_E_price_19 (by decide) ?_
  refine et_icmp_lt (tgt := 29) d_E_price_20 (by decide) (fun q2 => ?_) (fun q2 => ?_)
  · exact et_throw (x := 0) "no price" d_E_price_29 d_E_price_32 d_E_price_33 d_E_price_35 d_E_price_38 (by decide +kernel) cl_E_79 ini_IllegalArgumentException ins_IllegalArgumentException thr_0 (by decide +kernel) rfl (Nat.le_of_ble_eq_true rfl) (Nat.le_of_ble_eq_true rfl) (Nat.le_of_ble_eq_true rfl) (Or.inl ⟨fun z => absurd z.2.1 (Int32.not_le.mpr q2), rfl, rfl, rfl⟩)
  refine et_iload_n (i := 2) d_E_price_23 rfl rfl ?_
  refine et_ldc d_E_price_24 kc_E_136 ?_
  refine et_icmp_le (tgt := 39) d_E_price_26 (by decide) (fun q3 => ?_) (fun q3 => ?_)
  rotate_left
  · exact et_throw (x := 0) "no price" d_E_price_29 d_E_price_32 d_E_price_33 d_E_price_35 d_E_price_38 (by decide +kernel) cl_E_79 ini_IllegalArgumentException ins_IllegalArgumentException thr_0 (by decide +kernel) rfl (Nat.le_of_ble_eq_true rfl) (Nat.le_of_ble_eq_true rfl) (Nat.le_of_ble_eq_true rfl) (Or.inl ⟨fun z => q3 z.2.2, rfl, rfl, rfl⟩)
  refine et_aload_n (i := 0) d_E_price_39 rfl rfl ?_
  refine et_getf (ci := 6) 4 d_E_price_40 f0 rfl in_E (by decide) fl_E_44 rfl ?_
  refine et_getf (ci := 0) 0 d_E_price_43 h17 rfl in_C (by decide) fl_E_139 rfl ?_
  refine et_iload_n (i := 1) d_E_price_46 rfl rfl ?_
  refine et_iload_n (i := 2) d_E_price_47 rfl rfl ?_
  refine et_iast d_E_price_48 h18 (et_pt_in q1) ?_
  exact et_vret d_E_price_49 rfl (Nat.le_of_ble_eq_true rfl) (Nat.le_of_ble_eq_true rfl) (Or.inr ⟨⟨q1, Int32.not_lt.mp q2, q3⟩, rfl, rfl, rfl⟩)
set_option maxHeartbeats 4000000 in
set_option maxRecDepth 100000 in
theorem c0_R_listNodes {sc : et_X} {h : Nat → et_MC} {d n : Nat} {f : Nat → Int32} (h3 : h 3 = .inr (1, [.ref 4, .ref 5, .ref 6, .ref 7, .int 0, .int 0, .ref 8, .ref 9])) {ch : Int32} (h13 : h 13 = .inr (2, [.int ch, .ref 3, .ref 10, .ref 14, .ref 15, .ref 16])) (h16 : h 16 = .inl (0, 41, .inl f)) : et_Cn sc Y_R_listNodes d [.ref 13] h n 0 0 (fun r h' n' => r = .inl none ∧ n' = n ∧ h' = va_up h 16 (.inl (0, 41, .inl (upd f 0 0)))) := by
  refine et_Cn.of 3 rfl rfl (by decide) mV_R_listNodes.1 ?_
  refine et_iconst (v := 0) d_R_listNodes_0 (by decide) ?_
  refine et_istore_n (i := 1) (lv' := [_, _, _, _]) d_R_listNodes_1 rfl (by decide) rfl rfl ?_
  refine et_iconst (v := 0) d_R_listNodes_2 (by decide) ?_
  refine et_istore_n (i := 2) (lv' := [_, _, _, _]) d_R_listNodes_3 rfl (by decide) rfl rfl ?_
  refine et_iload_n (i := 2) d_R_listNodes_4 rfl rfl ?_
  refine et_aload_n (i := 0) d_R_listNodes_5 rfl rfl ?_
  refine et_getf (ci := 2) 1 d_R_listNodes_6 h13 rfl in_R (by decide) fl_R_25 rfl ?_
  refine et_getf (ci := 1) 5 d_R_listNodes_9 h3 rfl in_G (by decide) fl_R_39 rfl ?_
  refine et_icmp_ge (tgt := 70) d_R_listNodes_12 (by decide) (fun _ => ?_) (fun q => absurd (by decide) q)
  refine et_aload_n (i := 0) d_R_listNodes_70 rfl rfl ?_
  refine et_getf (ci := 2) 5 d_R_listNodes_71 h13 rfl in_R (by decide) fl_R_22 rfl ?_
  refine et_aload_n (i := 0) d_R_listNodes_74 rfl rfl ?_
  refine et_getf (ci := 2) 1 d_R_listNodes_75 h13 rfl in_R (by decide) fl_R_25 rfl ?_
  refine et_getf (ci := 1) 5 d_R_listNodes_78 h3 rfl in_G (by decide) fl_R_39 rfl ?_
  refine et_iload_n (i := 1) d_R_listNodes_81 rfl rfl ?_
  refine et_iast d_R_listNodes_82 h16 (vp_in_iff.mpr ⟨by decide, by decide⟩) ?_
  exact et_vret d_R_listNodes_83 rfl (Nat.le_of_ble_eq_true rfl) (Nat.le_of_ble_eq_true rfl) ⟨rfl, rfl, rfl⟩
set_option maxHeartbeats 4000000 in
set_option maxRecDepth 100000 in
theorem c0_R_fitAll {sc : et_X} {h : Nat → et_MC} {d n : Nat} {f : Nat → Int32} (h3 : h 3 = .inr (1, [.ref 4, .ref 5, .ref 6, .ref 7, .int 0, .int 0, .ref 8, .ref 9])) {ch : Int32} (h13 : h 13 = .inr (2, [.int ch, .ref 3, .ref 10, .ref 14, .ref 15, .ref 16])) (h16 : h 16 = .inl (0, 41, .inl f)) : et_Cn sc Y_R_fitAll (d + 1) [.ref 13, .ref 63, .int 0] h n 0 0 (fun r h' n' => r = .inl (some (.int 1)) ∧ n' = n ∧ h' 13 = .inr (2, [.int 0, .ref 3, .ref 10, .ref 14, .ref 15, .ref 16]) ∧ ∀ k, k ≠ 13 → k ≠ 16 → h' k = h k) := by
  refine et_Cn.of 4 rfl rfl (by decide) mV_R_fitAll.1 ?_
  refine et_aload_n (i := 0) d_R_fitAll_0 rfl rfl ?_
  refine et_getf (ci := 2) 1 d_R_fitAll_1 h13 rfl in_R (by decide) fl_R_25 rfl ?_
  refine et_getf (ci := 1) 4 d_R_fitAll_4 h3 rfl in_G (by decide) fl_R_33 rfl ?_
  refine et_istore_n (i := 3) (lv' := [_, _, _, _, _, _, _]) d_R_fitAll_7 rfl (by decide) rfl rfl ?_
  refine et_aload_n (i := 0) d_R_fitAll_8 rfl rfl ?_
  refine et_getf (ci := 2) 1 d_R_fitAll_9 h13 rfl in_R (by decide) fl_R_25 rfl ?_
  refine et_getf (ci := 1) 5 d_R_fitAll_12 h3 rfl in_G (by decide) fl_R_39 rfl ?_
  refine et_istore (lv' := [_, _, _, _, _, _, _]) d_R_fitAll_15 (by decide) rfl rfl ?_
  refine et_aload_n (i := 0) d_R_fitAll_17 rfl rfl ?_
  refine et_invV mV_R_listNodes (As := []) rfl d_R_fitAll_18 lk_R_42 len_R_listNodes h13 rfl (Nat.le_of_ble_eq_true rfl) (c0_R_listNodes (d := d) h3 h13 h16) (Nat.le_refl _) (Nat.le_of_ble_eq_true rfl) (Nat.le_of_ble_eq_true rfl) (fun v h' n' hp => ?_) (fun x h' n' hp => by cases hp.1)
  obtain ⟨hv, rfl, rfl⟩ := hp
  cases hv
  refine et_aload_n (i := 0) d_R_fitAll_21 rfl rfl ?_
  refine et_iconst (v := 0) d_R_fitAll_22 (by decide) ?_
  refine et_putf (ci := 2) 0 d_R_fitAll_23 h13 rfl in_R ty_R nm_R (by decide) fl_R_9 rfl rfl (fun _ => rfl) (fun _ => rfl) (Nat.le_of_ble_eq_true rfl) (fs' := [_, _, _, _, _, _]) rfl ?_
  refine et_iconst (v := 0) d_R_fitAll_26 (by decide) ?_
  refine et_istore (lv' := [_, _, _, _, _, _, _]) d_R_fitAll_27 (by decide) rfl rfl ?_
  refine et_iload d_R_fitAll_29 rfl ?_
  refine et_iload_n (i := 2) d_R_fitAll_31 rfl rfl ?_
  refine et_icmp_ge (tgt := 89) d_R_fitAll_32 (by decide) (fun _ => ?_) (fun q => absurd (by decide) q)
  refine et_aload_n (i := 0) d_R_fitAll_89 rfl rfl ?_
  refine et_getf (ci := 2) 0 d_R_fitAll_90 rfl rfl in_R (by decide) fl_R_9 rfl ?_
  refine et_if_eq (tgt := 103) d_R_fitAll_93 (by decide) (fun _ => ?_) (fun q => absurd (by decide) q)
  refine et_iconst (v := 1) d_R_fitAll_103 (by decide) ?_
  exact et_zret d_R_fitAll_104 rfl rfl (Nat.le_of_ble_eq_true rfl) (Nat.le_of_ble_eq_true rfl) ⟨rfl, rfl, rfl, fun k e1 e2 => by simp [va_up, e1, e2]⟩
set_option maxHeartbeats 4000000 in
set_option maxRecDepth 100000 in
theorem c0_E_rounds {sc : et_X} {h : Nat → et_MC} {d n : Nat} {f : Nat → Int32} (x : Int32) (f0 : h 0 = .inr (6, [.ref 1, .ref 3, .ref 10, .ref 13, .ref 17, .ref 63, .int 0])) (h3 : h 3 = .inr (1, [.ref 4, .ref 5, .ref 6, .ref 7, .int 0, .int 0, .ref 8, .ref 9])) {ch : Int32} (h13 : h 13 = .inr (2, [.int ch, .ref 3, .ref 10, .ref 14, .ref 15, .ref 16])) (h16 : h 16 = .inl (0, 41, .inl f)) : et_Cn sc Y_E_rounds (d + 2) [.ref 0, .int x] h n 1 6 (fun r h' n' => (¬ (0 ≤ x ∧ x ≤ 20) ∧ r = .inr 0 ∧ n' = n + 1 ∧ h' = va_up h n et_void) ∨ ((0 ≤ x ∧ x ≤ 20) ∧ r = .inl (some (.int 0)) ∧ n' = n ∧ ∀ k, k ≠ 13 → k ≠ 16 → h' k = h k)) := by
  refine et_Cn.of 2 rfl rfl (by decide) mV_E_rounds.1 ?_
  refine et_iload_n (i := 1) d_E_rounds_0 rfl rfl ?_
  refine et_if_lt (tgt := 10) d_E_rounds_1 (by decide) (fun q1 => ?_) (fun q1 => ?_)
  · exact et_throw (x := 0) "no number of rounds" d_E_rounds_10 d_E_rounds_13 d_E_rounds_14 d_E_rounds_16 d_E_rounds_19 (by decide +kernel) cl_E_79 ini_IllegalArgumentException ins_IllegalArgumentException thr_0 (by decide +kernel) rfl (Nat.le_of_ble_eq_true rfl) (Nat.le_of_ble_eq_true rfl) (Nat.le_of_ble_eq_true rfl) (Or.inl ⟨fun z => absurd z.1 (Int32.not_le.mpr q1), rfl, rfl, rfl⟩)
  refine et_iload_n (i := 1) d_E_rounds_4 rfl rfl ?_
  refine et_bipush (v := 20) d_E_rounds_5 (by decide) ?_
  refine et_icmp_le (tgt := 20) d_E_rounds_7 (by decide) (fun q2 => ?_) (fun q2 => ?_)
  rotate_left
  · exact et_throw (x := 0) "no number of rounds" d_E_rounds_10 d_E_rounds_13 d_E_rounds_14 d_E_rounds_16 d_E_rounds_19 (by decide +kernel) cl_E_79 ini_IllegalArgumentException ins_IllegalArgumentException thr_0 (by decide +kernel) rfl (Nat.le_of_ble_eq_true rfl) (Nat.le_of_ble_eq_true rfl) (Nat.le_of_ble_eq_true rfl) (Or.inl ⟨fun z => q2 z.2, rfl, rfl, rfl⟩)
  refine et_iconst (v := 0) d_E_rounds_20 (by decide) ?_
  refine et_istore_n (i := 2) (lv' := [_, _, _, _]) d_E_rounds_21 rfl (by decide) rfl rfl ?_
  refine et_iconst (v := 0) d_E_rounds_22 (by decide) ?_
  refine et_istore_n (i := 3) (lv' := [_, _, _, _]) d_E_rounds_23 rfl (by decide) rfl rfl ?_
  refine et_iload_n (i := 3) d_E_rounds_24 rfl rfl ?_
  refine et_iload_n (i := 1) d_E_rounds_25 rfl rfl ?_
  refine et_icmp_ge (tgt := 71) d_E_rounds_26 (by decide) (fun q3 => ?_) (fun q3 => ?_)
  · refine et_iload_n (i := 2) d_E_rounds_71 rfl rfl ?_
    exact et_iret d_E_rounds_72 rfl (Nat.le_of_ble_eq_true rfl) (Nat.le_of_ble_eq_true rfl) (Or.inr ⟨⟨Int32.not_lt.mp q1, q2⟩, rfl, rfl, fun k _ _ => rfl⟩)
  refine et_aload_n (i := 0) d_E_rounds_29 rfl rfl ?_
  refine et_getf (ci := 6) 3 d_E_rounds_30 f0 rfl in_E (by decide) fl_E_37 rfl ?_
  refine et_aload_n (i := 0) d_E_rounds_33 rfl rfl ?_
  refine et_getf (ci := 6) 5 d_E_rounds_34 f0 rfl in_E (by decide) fl_E_50 rfl ?_
  refine et_aload_n (i := 0) d_E_rounds_37 rfl rfl ?_
  refine et_getf (ci := 6) 6 d_E_rounds_38 f0 rfl in_E (by decide) fl_E_54 rfl ?_
  refine et_invV mV_R_fitAll (As := [_, _]) rfl d_E_rounds_41 lk_E_144 len_R_fitAll h13 rfl (Nat.le_of_ble_eq_true rfl) (c0_R_fitAll (d := d) h3 h13 h16) (Nat.le_refl _) (Nat.le_of_ble_eq_true rfl) (Nat.le_of_ble_eq_true rfl) (fun v ha n' hp => ?_) (fun x h' n' hp => by cases hp.1)
  obtain ⟨hv, rfl, g13, fr⟩ := hp
  cases hv
  have f0 := (fr 0 (by decide) (by decide)).trans f0
  refine et_if_ne (tgt := 50) d_E_rounds_44 (by decide) (fun _ => ?_) (fun q => absurd q (by decide))
  refine et_aload_n (i := 0) d_E_rounds_50 rfl rfl ?_
  refine et_getf (ci := 6) 3 d_E_rounds_51 f0 rfl in_E (by decide) fl_E_37 rfl ?_
  refine et_getf (ci := 2) 0 d_E_rounds_54 g13 rfl in_R (by decide) fl_E_148 rfl ?_
  refine et_if_ne (tgt := 62) d_E_rounds_57 (by decide) (fun q => absurd (by decide) q) (fun _ => ?_)
  refine et_iload_n (i := 2) d_E_rounds_60 rfl rfl ?_
  exact et_iret d_E_rounds_61 rfl (Nat.le_of_ble_eq_true rfl) (Nat.le_of_ble_eq_true rfl) (Or.inr ⟨⟨Int32.not_lt.mp q1, q2⟩, rfl, rfl, fr⟩)
