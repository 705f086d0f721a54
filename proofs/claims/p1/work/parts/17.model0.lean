set_option maxHeartbeats 4000000 in
set_option maxRecDepth 100000 in
theorem c_M_fail {sc : et_X} {h : Nat → et_MC} {d n : Nat} {th le a_ wr en al se ru nd cs un rs : Int32} {dc ds : Int64} (h64 : h 64 = et_Mo th le a_ wr en al se ru nd cs un rs dc ds) : et_Cn sc Y_M_fail d [.ref 64] h n 0 0 (fun r h' n' => r = .inl (some (.int 0)) ∧ n' = n ∧ h' = va_up h 64 (et_Mo th le a_ a_ en al se ru nd cs un rs dc ds)) := by
  refine et_Cn.of 0 rfl rfl (by decide) mV_M_fail.1 ?_
  refine et_aload_n (i := 0) d_M_fail_0 rfl rfl ?_
  refine et_aload_n (i := 0) d_M_fail_1 rfl rfl ?_
  refine et_getf (ci := 7) 3 d_M_fail_2 h64 rfl in_M (by decide) fl_M_88 rfl ?_
  refine et_putf (ci := 7) 4 d_M_fail_5 h64 rfl in_M ty_M nm_M (by decide) fl_M_13 rfl rfl (fun _ => rfl) (fun _ => rfl) (Nat.le_of_ble_eq_true rfl) (fs' := [_, _, _, _, _, _, _, _, _, _, _, _, _, _, _, _, _, _, _, _, _, _, _, _, _, _, _, _, _, _, _, _, _]) rfl ?_
  refine et_iconst (v := 0) d_M_fail_8 (by decide) ?_
  exact et_zret d_M_fail_9 rfl rfl (Nat.le_of_ble_eq_true rfl) (Nat.le_of_ble_eq_true rfl) ⟨rfl, rfl, rfl⟩
set_option maxHeartbeats 4000000 in
set_option maxRecDepth 100000 in
theorem c0_M_readSide {sc : et_X} {h : Nat → et_MC} {d n : Nat} {th wr en al se ru nd cs un rs : Int32} {dc ds : Int64} (x y : Int32) (hx : 0 ≤ x) (h64 : h 64 = et_Mo th 0 0 wr en al se ru nd cs un rs dc ds) : et_Cn sc Y_M_readSide (d + 1) [.ref 64, .int x, .int y] h n 0 0 (fun r h' n' => r = .inl (some (.int 0)) ∧ n' = n ∧ h' 64 = et_Mo th 0 0 0 0 al se ru nd cs un rs dc ds ∧ ∀ k, k ≠ 64 → h' k = h k) := by
  refine et_Cn.of 3 rfl rfl (by decide) mV_M_readSide.1 ?_
  refine et_aload_n (i := 0) d_M_readSide_0 rfl rfl ?_
  refine et_aload_n (i := 0) d_M_readSide_1 rfl rfl ?_
  refine et_getf (ci := 7) 3 d_M_readSide_2 h64 rfl in_M (by decide) fl_M_88 rfl ?_
  refine et_iload_n (i := 1) d_M_readSide_5 rfl rfl ?_
  refine et_iadd d_M_readSide_6 ?_
  refine et_aload_n (i := 0) d_M_readSide_7 rfl rfl ?_
  refine et_getf (ci := 7) 2 d_M_readSide_8 h64 rfl in_M (by decide) fl_M_79 rfl ?_
  refine et_icmp_ge (tgt := 23) d_M_readSide_11 (by decide) (fun _ => ?_) (fun q => absurd (show (0 : Int32) ≤ 0 + x by rw [Int32.zero_add]; exact hx) q)
  refine et_aload_n (i := 0) d_M_readSide_23 rfl rfl ?_
  refine et_getf (ci := 7) 2 d_M_readSide_24 h64 rfl in_M (by decide) fl_M_79 rfl ?_
  refine et_putf (ci := 7) 5 d_M_readSide_27 h64 rfl in_M ty_M nm_M (by decide) fl_M_91 rfl rfl (fun _ => rfl) (fun _ => rfl) (Nat.le_of_ble_eq_true rfl) (fs' := [_, _, _, _, _, _, _, _, _, _, _, _, _, _, _, _, _, _, _, _, _, _, _, _, _, _, _, _, _, _, _, _, _]) rfl ?_
  refine et_iconst (v := 1) d_M_readSide_30 (by decide) ?_
  refine et_istore_n (i := 3) (lv' := [_, _, _, _, _, _]) d_M_readSide_31 rfl (by decide) rfl rfl ?_
  refine et_iload_n (i := 3) d_M_readSide_32 rfl rfl ?_
  refine et_if_le (tgt := 176) d_M_readSide_33 (by decide) (fun q => absurd q (by decide)) (fun _ => ?_)
  refine et_aload_n (i := 0) d_M_readSide_36 rfl rfl ?_
  refine et_getf (ci := 7) 3 d_M_readSide_37 rfl rfl in_M (by decide) fl_M_88 rfl ?_
  refine et_aload_n (i := 0) d_M_readSide_40 rfl rfl ?_
  refine et_getf (ci := 7) 5 d_M_readSide_41 rfl rfl in_M (by decide) fl_M_91 rfl ?_
  refine et_icmp_lt (tgt := 52) d_M_readSide_44 (by decide) (fun q => absurd q (by decide)) (fun _ => ?_)
  refine et_aload_n (i := 0) d_M_readSide_47 rfl rfl ?_
  refine et_invV mV_M_fail (As := []) rfl d_M_readSide_48 lk_M_94 len_M_fail rfl rfl (Nat.le_of_ble_eq_true rfl) (c_M_fail (d := d) rfl) (Nat.le_refl _) (Nat.le_of_ble_eq_true rfl) (Nat.le_of_ble_eq_true rfl) (fun v h' n' hp => ?_) (fun x h' n' hp => by cases hp.1)
  obtain ⟨hv, rfl, rfl⟩ := hp
  cases hv
  exact et_zret d_M_readSide_51 rfl rfl (Nat.le_of_ble_eq_true rfl) (Nat.le_of_ble_eq_true rfl) ⟨rfl, rfl, rfl, fun k e => by simp [va_up, e]⟩
set_option maxHeartbeats 4000000 in
set_option maxRecDepth 100000 in
theorem c0_M_readTerm {sc : et_X} {h : Nat → et_MC} {d n : Nat} {th a_ wr en al se ru nd cs un rs : Int32} {dc ds : Int64} (h64 : h 64 = et_Mo th 0 a_ wr en al se ru nd cs un rs dc ds) : et_Cn sc Y_M_readTerm (d + 2) [.ref 64] h n 0 0 (fun r h' n' => r = .inl (some (.int 0)) ∧ n' = n ∧ h' 64 = et_Mo th 0 0 0 0 al se ru nd cs un rs dc ds ∧ ∀ k, k ≠ 64 → h' k = h k) := by
  refine et_Cn.of 0 rfl rfl (by decide) mV_M_readTerm.1 ?_
  refine et_aload_n (i := 0) d_M_readTerm_0 rfl rfl ?_
  refine et_iconst (v := 0) d_M_readTerm_1 (by decide) ?_
  refine et_putf (ci := 7) 3 d_M_readTerm_2 h64 rfl in_M ty_M nm_M (by decide) fl_M_88 rfl rfl (fun _ => rfl) (fun _ => rfl) (Nat.le_of_ble_eq_true rfl) (fs' := [_, _, _, _, _, _, _, _, _, _, _, _, _, _, _, _, _, _, _, _, _, _, _, _, _, _, _, _, _, _, _, _, _]) rfl ?_
  refine et_aload_n (i := 0) d_M_readTerm_5 rfl rfl ?_
  refine et_bipush (v := 60) d_M_readTerm_6 (by decide) ?_
  refine et_iconst (v := 0) d_M_readTerm_8 (by decide) ?_
  refine et_invV mV_M_readSide (As := [_, _]) rfl d_M_readTerm_9 lk_M_105 len_M_readSide rfl rfl (Nat.le_of_ble_eq_true rfl) (c0_M_readSide (d := d) 60 0 (by decide) rfl) (Nat.le_refl _) (Nat.le_of_ble_eq_true rfl) (Nat.le_of_ble_eq_true rfl) (fun v ha n' hp => ?_) (fun x h' n' hp => by cases hp.1)
  obtain ⟨hv, rfl, g64, fr⟩ := hp
  cases hv
  refine et_if_eq (tgt := 37) d_M_readTerm_12 (by decide) (fun _ => ?_) (fun q => absurd (by decide) q)
  refine et_iconst (v := 0) d_M_readTerm_37 (by decide) ?_
  exact et_zret d_M_readTerm_38 rfl rfl (Nat.le_of_ble_eq_true rfl) (Nat.le_of_ble_eq_true rfl) ⟨rfl, rfl, g64, fun k e => (fr k e).trans (by simp [va_up, e])⟩
set_option maxHeartbeats 4000000 in
set_option maxRecDepth 100000 in
theorem c0_M_readBoth {sc : et_X} {h : Nat → et_MC} {d n : Nat} {th a_ wr en al se ru nd cs un rs : Int32} {dc ds : Int64} (x z : Int32) (hx : 0 ≤ x) (h64 : h 64 = et_Mo th 0 a_ wr en al se ru nd cs un rs dc ds) : et_Cn sc Y_M_readBoth (d + 2) [.ref 64, .int x, .int z] h n 0 0 (fun r h' n' => r = .inl (some (.int (-1))) ∧ n' = n ∧ h' 64 = et_Mo th 0 0 0 0 al 0 ru nd cs un rs dc ds ∧ ∀ k, k ≠ 64 → h' k = h k) := by
  refine et_Cn.of 1 rfl rfl (by decide) mV_M_readBoth.1 ?_
  refine et_aload_n (i := 0) d_M_readBoth_0 rfl rfl ?_
  refine et_iconst (v := 0) d_M_readBoth_1 (by decide) ?_
  refine et_putf (ci := 7) 3 d_M_readBoth_2 h64 rfl in_M ty_M nm_M (by decide) fl_M_88 rfl rfl (fun _ => rfl) (fun _ => rfl) (Nat.le_of_ble_eq_true rfl) (fs' := [_, _, _, _, _, _, _, _, _, _, _, _, _, _, _, _, _, _, _, _, _, _, _, _, _, _, _, _, _, _, _, _, _]) rfl ?_
  refine et_aload_n (i := 0) d_M_readBoth_5 rfl rfl ?_
  refine et_iconst (v := 0) d_M_readBoth_6 (by decide) ?_
  refine et_putf (ci := 7) 7 d_M_readBoth_7 rfl rfl in_M ty_M nm_M (by decide) fl_M_102 rfl rfl (fun _ => rfl) (fun _ => rfl) (Nat.le_of_ble_eq_true rfl) (fs' := [_, _, _, _, _, _, _, _, _, _, _, _, _, _, _, _, _, _, _, _, _, _, _, _, _, _, _, _, _, _, _, _, _]) rfl ?_
  refine et_aload_n (i := 0) d_M_readBoth_10 rfl rfl ?_
  refine et_iload_n (i := 1) d_M_readBoth_11 rfl rfl ?_
  refine et_iload_n (i := 2) d_M_readBoth_12 rfl rfl ?_
  have key : ∀ y : Int32, et_M sc Y_M_readBoth (d + 2) 0 0 (fun r h' n' => r = .inl (some (.int (-1))) ∧ n' = n ∧ h' 64 = et_Mo th 0 0 0 0 al 0 ru nd cs un rs dc ds ∧ ∀ k, k ≠ 64 → h' k = h k) 22 [some (.ref 64), some (.int x), some (.int z), none] [.int y, .int x, .ref 64] (va_up (va_up h 64 (et_Mo th 0 0 wr en al se ru nd cs un rs dc ds)) 64 (et_Mo th 0 0 wr en al 0 ru nd cs un rs dc ds)) n 0 0 := by
    intro y
    refine et_invV mV_M_readSide (As := [_, _]) rfl d_M_readBoth_22 lk_M_105 len_M_readSide rfl rfl (Nat.le_of_ble_eq_true rfl) (c0_M_readSide (d := d) x y hx rfl) (Nat.le_refl _) (Nat.le_of_ble_eq_true rfl) (Nat.le_of_ble_eq_true rfl) (fun v ha n' hp => ?_) (fun x h' n' hp => by cases hp.1)
    obtain ⟨hv, rfl, g64, fr⟩ := hp
    cases hv
    refine et_if_ne (tgt := 30) d_M_readBoth_25 (by decide) (fun q => absurd (by decide) q) (fun _ => ?_)
    refine et_iconst (v := (-1)) d_M_readBoth_28 (by decide) ?_
    exact et_iret d_M_readBoth_29 rfl (Nat.le_of_ble_eq_true rfl) (Nat.le_of_ble_eq_true rfl) ⟨rfl, rfl, g64, fun k e => (fr k e).trans (by simp [va_up, e])⟩
  refine et_if_eq (tgt := 21) d_M_readBoth_13 (by decide) (fun q => ?_) (fun q => ?_)
  · refine et_iconst (v := 0) d_M_readBoth_21 (by decide) ?_
    exact key 0
  · refine et_bipush (v := 7) d_M_readBoth_16 (by decide) ?_
    refine et_goto (tgt := 22) d_M_readBoth_18 (by decide) ?_
    exact key 7
set_option maxHeartbeats 4000000 in
set_option maxRecDepth 100000 in
theorem c0_M_rule {sc : et_X} {h : Nat → et_MC} {d n : Nat} {th a_ wr en al se ru nd cs un rs : Int32} {dc ds : Int64} (h64 : h 64 = et_Mo th 0 a_ wr en al se ru nd cs un rs dc ds) : et_Cn sc Y_M_rule (d + 3) [.ref 64] h n 0 0 (fun r h' n' => r = .inl (some (.int 0)) ∧ n' = n ∧ h' 64 = et_Mo 1 0 0 0 0 al 0 ru nd cs un rs dc ds ∧ ∀ k, k ≠ 64 → h' k = h k) := by
  refine et_Cn.of 2 rfl rfl (by decide) mV_M_rule.1 ?_
  refine et_aload_n (i := 0) d_M_rule_0 rfl rfl ?_
  refine et_iconst (v := 0) d_M_rule_1 (by decide) ?_
  refine et_putf (ci := 7) 0 d_M_rule_2 h64 rfl in_M ty_M nm_M (by decide) fl_M_72 rfl rfl (fun _ => rfl) (fun _ => rfl) (Nat.le_of_ble_eq_true rfl) (fs' := [_, _, _, _, _, _, _, _, _, _, _, _, _, _, _, _, _, _, _, _, _, _, _, _, _, _, _, _, _, _, _, _, _]) rfl ?_
  refine et_aload_n (i := 0) d_M_rule_5 rfl rfl ?_
  refine et_bipush (v := 7) d_M_rule_6 (by decide) ?_
  refine et_iconst (v := 1) d_M_rule_8 (by decide) ?_
  refine et_invV mV_M_readBoth (As := [_, _]) rfl d_M_rule_9 lk_M_109 len_M_readBoth rfl rfl (Nat.le_of_ble_eq_true rfl) (c0_M_readBoth (d := d) 7 1 (by decide) rfl) (Nat.le_refl _) (Nat.le_of_ble_eq_true rfl) (Nat.le_of_ble_eq_true rfl) (fun v ha n' hp => ?_) (fun x h' n' hp => by cases hp.1)
  obtain ⟨hv, rfl, g64, fr⟩ := hp
  cases hv
  refine et_istore_n (i := 1) (lv' := [_, _, _]) d_M_rule_12 rfl (by decide) rfl rfl ?_
  refine et_iload_n (i := 1) d_M_rule_13 rfl rfl ?_
  refine et_if_lt (tgt := 26) d_M_rule_14 (by decide) (fun _ => ?_) (fun q => absurd (by decide) q)
  refine et_aload_n (i := 0) d_M_rule_26 rfl rfl ?_
  refine et_iload_n (i := 1) d_M_rule_27 rfl rfl ?_
  refine et_if_ge (tgt := 35) d_M_rule_28 (by decide) (fun q => absurd q (by decide)) (fun _ => ?_)
  refine et_iconst (v := 1) d_M_rule_31 (by decide) ?_
  refine et_goto (tgt := 36) d_M_rule_32 (by decide) ?_
  refine et_invV mV_M_refuse (As := [_]) rfl d_M_rule_36 lk_M_116 len_M_refuse g64 rfl (Nat.le_of_ble_eq_true rfl) (c_M_refuse (d := d) 1 g64) (by omega) (Nat.le_of_ble_eq_true rfl) (Nat.le_of_ble_eq_true rfl) (fun v h' n' hp => ?_) (fun x h' n' hp => by cases hp.1)
  obtain ⟨hv, rfl, rfl⟩ := hp
  cases hv
  exact et_iret d_M_rule_39 rfl (Nat.le_of_ble_eq_true rfl) (Nat.le_of_ble_eq_true rfl) ⟨rfl, rfl, rfl, fun k e => by simp [va_up, e, fr k e]⟩
set_option maxHeartbeats 4000000 in
set_option maxRecDepth 100000 in
theorem c0_M_unite {sc : et_X} {h : Nat → et_MC} {d n : Nat} {th a_ wr en al se ru nd cs un rs : Int32} {dc ds : Int64} (h64 : h 64 = et_Mo th 0 a_ wr en al se ru nd cs un rs dc ds) : et_Cn sc Y_M_unite (d + 3) [.ref 64] h n 0 0 (fun r h' n' => r = .inl (some (.int 0)) ∧ n' = n ∧ h' 64 = et_Mo 1 0 0 0 0 al 0 ru nd cs un rs dc ds ∧ ∀ k, k ≠ 64 → h' k = h k) := by
  refine et_Cn.of 5 rfl rfl (by decide) mV_M_unite.1 ?_
  refine et_aload_n (i := 0) d_M_unite_0 rfl rfl ?_
  refine et_iconst (v := 0) d_M_unite_1 (by decide) ?_
  refine et_putf (ci := 7) 0 d_M_unite_2 h64 rfl in_M ty_M nm_M (by decide) fl_M_72 rfl rfl (fun _ => rfl) (fun _ => rfl) (Nat.le_of_ble_eq_true rfl) (fs' := [_, _, _, _, _, _, _, _, _, _, _, _, _, _, _, _, _, _, _, _, _, _, _, _, _, _, _, _, _, _, _, _, _]) rfl ?_
  refine et_aload_n (i := 0) d_M_unite_5 rfl rfl ?_
  refine et_bipush (v := 60) d_M_unite_6 (by decide) ?_
  refine et_iconst (v := 0) d_M_unite_8 (by decide) ?_
  refine et_invV mV_M_readBoth (As := [_, _]) rfl d_M_unite_9 lk_M_109 len_M_readBoth rfl rfl (Nat.le_of_ble_eq_true rfl) (c0_M_readBoth (d := d) 60 0 (by decide) rfl) (Nat.le_refl _) (Nat.le_of_ble_eq_true rfl) (Nat.le_of_ble_eq_true rfl) (fun v ha n' hp => ?_) (fun x h' n' hp => by cases hp.1)
  obtain ⟨hv, rfl, g64, fr⟩ := hp
  cases hv
  refine et_istore_n (i := 1) (lv' := [_, _, _, _, _, _]) d_M_unite_12 rfl (by decide) rfl rfl ?_
  refine et_iload_n (i := 1) d_M_unite_13 rfl rfl ?_
  refine et_if_ge (tgt := 23) d_M_unite_14 (by decide) (fun q => absurd q (by decide)) (fun _ => ?_)
  refine et_aload_n (i := 0) d_M_unite_17 rfl rfl ?_
  refine et_iconst (v := 1) d_M_unite_18 (by decide) ?_
  refine et_invV mV_M_refuse (As := [_]) rfl d_M_unite_19 lk_M_116 len_M_refuse g64 rfl (Nat.le_of_ble_eq_true rfl) (c_M_refuse (d := d) 1 g64) (by omega) (Nat.le_of_ble_eq_true rfl) (Nat.le_of_ble_eq_true rfl) (fun v h' n' hp => ?_) (fun x h' n' hp => by cases hp.1)
  obtain ⟨hv, rfl, rfl⟩ := hp
  cases hv
  exact et_iret d_M_unite_22 rfl (Nat.le_of_ble_eq_true rfl) (Nat.le_of_ble_eq_true rfl) ⟨rfl, rfl, rfl, fun k e => by simp [va_up, e, fr k e]⟩
set_option maxHeartbeats 4000000 in
set_option maxRecDepth 100000 in
theorem c0_M_same {sc : et_X} {h : Nat → et_MC} {d n : Nat} {th a_ wr en al se ru nd cs un rs : Int32} {dc ds : Int64} (h64 : h 64 = et_Mo th 0 a_ wr en al se ru nd cs un rs dc ds) : et_Cn sc Y_M_same (d + 3) [.ref 64] h n 0 0 (fun r h' n' => r = .inl (some (.int 0)) ∧ n' = n ∧ h' 64 = et_Mo 1 0 0 0 0 al 0 ru nd cs un rs dc ds ∧ ∀ k, k ≠ 64 → h' k = h k) := by
  refine et_Cn.of 3 rfl rfl (by decide) mV_M_same.1 ?_
  refine et_aload_n (i := 0) d_M_same_0 rfl rfl ?_
  refine et_iconst (v := 0) d_M_same_1 (by decide) ?_
  refine et_putf (ci := 7) 0 d_M_same_2 h64 rfl in_M ty_M nm_M (by decide) fl_M_72 rfl rfl (fun _ => rfl) (fun _ => rfl) (Nat.le_of_ble_eq_true rfl) (fs' := [_, _, _, _, _, _, _, _, _, _, _, _, _, _, _, _, _, _, _, _, _, _, _, _, _, _, _, _, _, _, _, _, _]) rfl ?_
  refine et_aload_n (i := 0) d_M_same_5 rfl rfl ?_
  refine et_bipush (v := 60) d_M_same_6 (by decide) ?_
  refine et_iconst (v := 0) d_M_same_8 (by decide) ?_
  refine et_invV mV_M_readBoth (As := [_, _]) rfl d_M_same_9 lk_M_109 len_M_readBoth rfl rfl (Nat.le_of_ble_eq_true rfl) (c0_M_readBoth (d := d) 60 0 (by decide) rfl) (Nat.le_refl _) (Nat.le_of_ble_eq_true rfl) (Nat.le_of_ble_eq_true rfl) (fun v ha n' hp => ?_) (fun x h' n' hp => by cases hp.1)
  obtain ⟨hv, rfl, g64, fr⟩ := hp
  cases hv
  refine et_istore_n (i := 1) (lv' := [_, _, _, _]) d_M_same_12 rfl (by decide) rfl rfl ?_
  refine et_iload_n (i := 1) d_M_same_13 rfl rfl ?_
  refine et_if_ge (tgt := 23) d_M_same_14 (by decide) (fun q => absurd q (by decide)) (fun _ => ?_)
  refine et_aload_n (i := 0) d_M_same_17 rfl rfl ?_
  refine et_iconst (v := 1) d_M_same_18 (by decide) ?_
  refine et_invV mV_M_refuse (As := [_]) rfl d_M_same_19 lk_M_116 len_M_refuse g64 rfl (Nat.le_of_ble_eq_true rfl) (c_M_refuse (d := d) 1 g64) (by omega) (Nat.le_of_ble_eq_true rfl) (Nat.le_of_ble_eq_true rfl) (fun v h' n' hp => ?_) (fun x h' n' hp => by cases hp.1)
  obtain ⟨hv, rfl, rfl⟩ := hp
  cases hv
  exact et_iret d_M_same_22 rfl (Nat.le_of_ble_eq_true rfl) (Nat.le_of_ble_eq_true rfl) ⟨rfl, rfl, rfl, fun k e => by simp [va_up, e, fr k e]⟩
set_option maxHeartbeats 4000000 in
set_option maxRecDepth 100000 in
theorem c0_M_add {sc : et_X} {h : Nat → et_MC} {d n : Nat} {th a_ wr en al se ru nd cs un rs : Int32} {dc ds : Int64} (h64 : h 64 = et_Mo th 0 a_ wr en al se ru nd cs un rs dc ds) : et_Cn sc Y_M_add (d + 3) [.ref 64] h n 0 0 (fun r h' n' => r = .inl (some (.int 0)) ∧ n' = n ∧ h' 64 = et_Mo 1 0 0 0 0 al se ru nd cs un rs dc ds ∧ ∀ k, k ≠ 64 → h' k = h k) := by
  refine et_Cn.of 3 rfl rfl (by decide) mV_M_add.1 ?_
  refine et_aload_n (i := 0) d_M_add_0 rfl rfl ?_
  refine et_iconst (v := 0) d_M_add_1 (by decide) ?_
  refine et_putf (ci := 7) 0 d_M_add_2 h64 rfl in_M ty_M nm_M (by decide) fl_M_72 rfl rfl (fun _ => rfl) (fun _ => rfl) (Nat.le_of_ble_eq_true rfl) (fs' := [_, _, _, _, _, _, _, _, _, _, _, _, _, _, _, _, _, _, _, _, _, _, _, _, _, _, _, _, _, _, _, _, _]) rfl ?_
  refine et_aload_n (i := 0) d_M_add_5 rfl rfl ?_
  refine et_invV mV_M_readTerm (As := []) rfl d_M_add_6 lk_M_157 len_M_readTerm rfl rfl (Nat.le_of_ble_eq_true rfl) (c0_M_readTerm (d := d) rfl) (Nat.le_refl _) (Nat.le_of_ble_eq_true rfl) (Nat.le_of_ble_eq_true rfl) (fun v ha n' hp => ?_) (fun x h' n' hp => by cases hp.1)
  obtain ⟨hv, rfl, g64, fr⟩ := hp
  cases hv
  refine et_if_ne (tgt := 18) d_M_add_9 (by decide) (fun q => absurd (by decide) q) (fun _ => ?_)
  refine et_aload_n (i := 0) d_M_add_12 rfl rfl ?_
  refine et_iconst (v := 1) d_M_add_13 (by decide) ?_
  refine et_invV mV_M_refuse (As := [_]) rfl d_M_add_14 lk_M_116 len_M_refuse g64 rfl (Nat.le_of_ble_eq_true rfl) (c_M_refuse (d := d) 1 g64) (by omega) (Nat.le_of_ble_eq_true rfl) (Nat.le_of_ble_eq_true rfl) (fun v h' n' hp => ?_) (fun x h' n' hp => by cases hp.1)
  obtain ⟨hv, rfl, rfl⟩ := hp
  cases hv
  exact et_iret d_M_add_17 rfl (Nat.le_of_ble_eq_true rfl) (Nat.le_of_ble_eq_true rfl) ⟨rfl, rfl, rfl, fun k e => by simp [va_up, e, fr k e]⟩
set_option maxHeartbeats 4000000 in
set_option maxRecDepth 100000 in
theorem c0_M_asked {sc : et_X} {h : Nat → et_MC} {d n : Nat} {th a_ wr en al se ru nd cs un rs : Int32} {dc ds : Int64} (h64 : h 64 = et_Mo th 0 a_ wr en al se ru nd cs un rs dc ds) : et_Cn sc Y_M_asked (d + 3) [.ref 64] h n 0 0 (fun r h' n' => r = .inl (some (.int 0)) ∧ n' = n ∧ h' 64 = et_Mo 1 0 0 0 0 al se ru nd cs un rs dc ds ∧ ∀ k, k ≠ 64 → h' k = h k) := by
  refine et_Cn.of 1 rfl rfl (by decide) mV_M_asked.1 ?_
  refine et_aload_n (i := 0) d_M_asked_0 rfl rfl ?_
  refine et_invV mV_M_readTerm (As := []) rfl d_M_asked_1 lk_M_157 len_M_readTerm h64 rfl (Nat.le_of_ble_eq_true rfl) (c0_M_readTerm (d := d) h64) (Nat.le_refl _) (Nat.le_of_ble_eq_true rfl) (Nat.le_of_ble_eq_true rfl) (fun v ha n' hp => ?_) (fun x h' n' hp => by cases hp.1)
  obtain ⟨hv, rfl, g64, fr⟩ := hp
  cases hv
  refine et_if_ne (tgt := 13) d_M_asked_4 (by decide) (fun q => absurd (by decide) q) (fun _ => ?_)
  refine et_aload_n (i := 0) d_M_asked_7 rfl rfl ?_
  refine et_iconst (v := 1) d_M_asked_8 (by decide) ?_
  refine et_invV mV_M_refuse (As := [_]) rfl d_M_asked_9 lk_M_116 len_M_refuse g64 rfl (Nat.le_of_ble_eq_true rfl) (c_M_refuse (d := d) 1 g64) (by omega) (Nat.le_of_ble_eq_true rfl) (Nat.le_of_ble_eq_true rfl) (fun v h' n' hp => ?_) (fun x h' n' hp => by cases hp.1)
  obtain ⟨hv, rfl, rfl⟩ := hp
  cases hv
  exact et_iret d_M_asked_12 rfl (Nat.le_of_ble_eq_true rfl) (Nat.le_of_ble_eq_true rfl) ⟨rfl, rfl, rfl, fun k e => by simp [va_up, e, fr k e]⟩
set_option maxHeartbeats 4000000 in
set_option maxRecDepth 100000 in
theorem c0_M_members {sc : et_X} {h : Nat → et_MC} {d n : Nat} {th a_ wr en al se ru nd cs un rs : Int32} {dc ds : Int64} (h64 : h 64 = et_Mo th 0 a_ wr en al se ru nd cs un rs dc ds) : et_Cn sc Y_M_members (d + 4) [.ref 64] h n 0 0 (fun r h' n' => r = .inl (some (.int 0)) ∧ n' = n ∧ h' 64 = et_Mo 1 0 0 0 0 al se ru nd cs un rs dc ds ∧ ∀ k, k ≠ 64 → h' k = h k) := by
  refine et_Cn.of 3 rfl rfl (by decide) mV_M_members.1 ?_
  refine et_aload_n (i := 0) d_M_members_0 rfl rfl ?_
  refine et_invV mV_M_asked (As := []) rfl d_M_members_1 lk_M_196 len_M_asked h64 rfl (Nat.le_of_ble_eq_true rfl) (c0_M_asked (d := d) h64) (Nat.le_refl _) (Nat.le_of_ble_eq_true rfl) (Nat.le_of_ble_eq_true rfl) (fun v ha n' hp => ?_) (fun x h' n' hp => by cases hp.1)
  obtain ⟨hv, rfl, g64, fr⟩ := hp
  cases hv
  refine et_istore_n (i := 1) (lv' := [_, _, _, _]) d_M_members_4 rfl (by decide) rfl rfl ?_
  refine et_aload_n (i := 0) d_M_members_5 rfl rfl ?_
  refine et_getf (ci := 7) 0 d_M_members_6 g64 rfl in_M (by decide) fl_M_72 rfl ?_
  refine et_if_le (tgt := 14) d_M_members_9 (by decide) (fun q => absurd q (by decide)) (fun _ => ?_)
  refine et_iconst (v := 0) d_M_members_12 (by decide) ?_
  exact et_iret d_M_members_13 rfl (Nat.le_of_ble_eq_true rfl) (Nat.le_of_ble_eq_true rfl) ⟨rfl, rfl, g64, fr⟩
set_option maxHeartbeats 4000000 in
set_option maxRecDepth 100000 in
theorem c0_M_cost {sc : et_X} {h : Nat → et_MC} {d n : Nat} {th a_ wr en al se ru nd cs un rs : Int32} {dc ds : Int64} (h64 : h 64 = et_Mo th 0 a_ wr en al se ru nd cs un rs dc ds) : et_Cn sc Y_M_cost (d + 4) [.ref 64] h n 0 0 (fun r h' n' => r = .inl (some (.long 0)) ∧ n' = n ∧ h' 64 = et_Mo 1 0 0 0 0 al se ru nd cs un rs dc ds ∧ ∀ k, k ≠ 64 → h' k = h k) := by
  refine et_Cn.of 1 rfl rfl (by decide) mV_M_cost.1 ?_
  refine et_aload_n (i := 0) d_M_cost_0 rfl rfl ?_
  refine et_invV mV_M_asked (As := []) rfl d_M_cost_1 lk_M_196 len_M_asked h64 rfl (Nat.le_of_ble_eq_true rfl) (c0_M_asked (d := d) h64) (Nat.le_refl _) (Nat.le_of_ble_eq_true rfl) (Nat.le_of_ble_eq_true rfl) (fun v ha n' hp => ?_) (fun x h' n' hp => by cases hp.1)
  obtain ⟨hv, rfl, g64, fr⟩ := hp
  cases hv
  refine et_istore_n (i := 1) (lv' := [_, _]) d_M_cost_4 rfl (by decide) rfl rfl ?_
  refine et_aload_n (i := 0) d_M_cost_5 rfl rfl ?_
  refine et_getf (ci := 7) 0 d_M_cost_6 g64 rfl in_M (by decide) fl_M_72 rfl ?_
  refine et_if_le (tgt := 14) d_M_cost_9 (by decide) (fun q => absurd q (by decide)) (fun _ => ?_)
  refine et_lconst (v := 0) d_M_cost_12 (by decide) ?_
  exact et_lret d_M_cost_13 rfl (Nat.le_of_ble_eq_true rfl) (Nat.le_of_ble_eq_true rfl) ⟨rfl, rfl, g64, fr⟩
set_option maxHeartbeats 4000000 in
set_option maxRecDepth 100000 in
theorem c0_M_best {sc : et_X} {h : Nat → et_MC} {d n : Nat} {th a_ wr en al se ru nd cs un rs : Int32} {dc ds : Int64} (h64 : h 64 = et_Mo th 0 a_ wr en al se ru nd cs un rs dc ds) : et_Cn sc Y_M_best (d + 4) [.ref 64] h n 0 0 (fun r h' n' => r = .inl (some (.int 0)) ∧ n' = n ∧ h' 64 = et_Mo 1 0 0 0 0 al se ru nd cs un rs dc ds ∧ ∀ k, k ≠ 64 → h' k = h k) := by
  refine et_Cn.of 2 rfl rfl (by decide) mV_M_best.1 ?_
  refine et_aload_n (i := 0) d_M_best_0 rfl rfl ?_
  refine et_invV mV_M_asked (As := []) rfl d_M_best_1 lk_M_196 len_M_asked h64 rfl (Nat.le_of_ble_eq_true rfl) (c0_M_asked (d := d) h64) (Nat.le_refl _) (Nat.le_of_ble_eq_true rfl) (Nat.le_of_ble_eq_true rfl) (fun v ha n' hp => ?_) (fun x h' n' hp => by cases hp.1)
  obtain ⟨hv, rfl, g64, fr⟩ := hp
  cases hv
  refine et_istore_n (i := 1) (lv' := [_, _, _]) d_M_best_4 rfl (by decide) rfl rfl ?_
  refine et_aload_n (i := 0) d_M_best_5 rfl rfl ?_
  refine et_getf (ci := 7) 0 d_M_best_6 g64 rfl in_M (by decide) fl_M_72 rfl ?_
  refine et_if_le (tgt := 14) d_M_best_9 (by decide) (fun q => absurd q (by decide)) (fun _ => ?_)
  refine et_iconst (v := 0) d_M_best_12 (by decide) ?_
  exact et_iret d_M_best_13 rfl (Nat.le_of_ble_eq_true rfl) (Nat.le_of_ble_eq_true rfl) ⟨rfl, rfl, g64, fr⟩
theorem et_pt_neg (x : Int32) : et_pt x < 0 ↔ et_pt x = -1 := by
  unfold et_pt
  by_cases e33 : x = 33 <;> by_cases e42 : x = 42 <;> by_cases e43 : x = 43 <;> by_cases e45 : x = 45 <;> by_cases e94 : x = 94 <;> by_cases e120 : x = 120 <;> by_cases e121 : x = 121 <;> by_cases e122 : x = 122 <;> by_cases e : 48 ≤ x ∧ x ≤ 57 <;> simp only [e33, e42, e43, e45, e94, e120, e121, e122, e, if_true, if_false] <;> decide
theorem et_pt_in128 {x : Int32} (h : ¬ et_pt x = -1) : vp_in x 128 := by
  have h1 := vp_in_iff.mp (et_pt_in h)
  exact vp_in_iff.mpr ⟨h1.1, by omega⟩
set_option maxHeartbeats 4000000 in
set_option maxRecDepth 100000 in
theorem c_M_price {sc : et_X} {h : Nat → et_MC} {d n : Nat} {th le a_ wr en al se ru nd cs un rs : Int32} {dc ds : Int64} {g : Nat → Int32} (x y : Int32) (h64 : h 64 = et_Mo th le a_ wr en al se ru nd cs un rs dc ds) (h79 : h 79 = .inl (0, 128, .inl g)) : et_Cn sc Y_M_price (d + 2) [.ref 64, .int x, .int y] h n 0 0 (fun r h' n' => r = .inl none ∧ n' = n ∧ ((¬ (¬ et_pt x = -1 ∧ 1 ≤ y ∧ y ≤ 1000000000) ∧ h' = va_up h 64 (et_Mo 1 le a_ wr en al se ru nd cs un rs dc ds)) ∨ ((¬ et_pt x = -1 ∧ 1 ≤ y ∧ y ≤ 1000000000) ∧ h' = va_up (va_up h 64 (et_Mo 0 le a_ wr en al se ru nd cs un rs dc ds)) 79 (.inl (0, 128, .inl (upd g x.toNatClampNeg y)))))) := by
  refine et_Cn.of 0 rfl rfl (by decide) mV_M_price.1 ?_
  refine et_aload_n (i := 0) d_M_price_0 rfl rfl ?_
  refine et_iload_n (i := 1) d_M_price_1 rfl rfl ?_
  refine et_invS mS_M_takes (As := [_]) rfl d_M_price_2 lk_M_98 len_M_takes (Nat.le_of_ble_eq_true rfl) (c_M_takes (d := d) x) (Nat.le_refl _) (Nat.le_of_ble_eq_true rfl) (Nat.le_of_ble_eq_true rfl) (fun v h' n' hp => ?_) (fun x h' n' hp => by cases hp.1)
  obtain ⟨hv, rfl, rfl⟩ := hp
  cases hv
  refine et_if_lt (tgt := 22) d_M_price_5 (by decide) (fun q1 => ?_) (fun q1 => ?_)
  · refine et_iconst (v := 1) d_M_price_22 (by decide) ?_
    refine et_putf (ci := 7) 0 d_M_price_23 h64 rfl in_M ty_M nm_M (by decide) fl_M_72 rfl rfl (fun _ => rfl) (fun _ => rfl) (Nat.le_of_ble_eq_true rfl) (fs' := [_, _, _, _, _, _, _, _, _, _, _, _, _, _, _, _, _, _, _, _, _, _, _, _, _, _, _, _, _, _, _, _, _]) rfl ?_
    refine et_aload_n (i := 0) d_M_price_26 rfl rfl ?_
    refine et_getf (ci := 7) 0 d_M_price_27 rfl rfl in_M (by decide) fl_M_72 rfl ?_
    refine et_if_ne (tgt := 40) d_M_price_30 (by decide) (fun _ => ?_) (fun q => absurd q (by decide))
    exact et_vret d_M_price_40 rfl (Nat.le_of_ble_eq_true rfl) (Nat.le_of_ble_eq_true rfl) ⟨rfl, rfl, Or.inl ⟨fun z => z.1 ((et_pt_neg x).mp q1), rfl⟩⟩
  refine et_iload_n (i := 2) d_M_price_8 rfl rfl ?_
  refine et_iconst (v := 1) d_M_price_9 (by decide) ?_
  refine et_ldc d_M_price_10 kc_M_169 ?_
  refine et_invS mS_M_within (As := [_, _, _]) rfl d_M_price_12 lk_M_75 len_M_within (Nat.le_of_ble_eq_true rfl) (c_M_within (d := d) y 1 1000000000) (by omega) (Nat.le_of_ble_eq_true rfl) (Nat.le_of_ble_eq_true rfl) (fun v h' n' hp => ?_) (fun x h' n' hp => by cases hp.1)
  obtain ⟨hv, rfl, rfl⟩ := hp
  cases hv
  by_cases e : 1 ≤ y ∧ y ≤ 1000000000
  · rw [if_pos e]
    refine et_if_eq (tgt := 22) d_M_price_15 (by decide) (fun q => absurd q (by decide)) (fun _ => ?_)
    refine et_iconst (v := 0) d_M_price_18 (by decide) ?_
    refine et_goto (tgt := 23) d_M_price_19 (by decide) ?_
    refine et_putf (ci := 7) 0 d_M_price_23 h64 rfl in_M ty_M nm_M (by decide) fl_M_72 rfl rfl (fun _ => rfl) (fun _ => rfl) (Nat.le_of_ble_eq_true rfl) (fs' := [_, _, _, _, _, _, _, _, _, _, _, _, _, _, _, _, _, _, _, _, _, _, _, _, _, _, _, _, _, _, _, _, _]) rfl ?_
    refine et_aload_n (i := 0) d_M_price_26 rfl rfl ?_
    refine et_getf (ci := 7) 0 d_M_price_27 rfl rfl in_M (by decide) fl_M_72 rfl ?_
    refine et_if_ne (tgt := 40) d_M_price_30 (by decide) (fun q => absurd (by decide) q) (fun _ => ?_)
    refine et_aload_n (i := 0) d_M_price_33 rfl rfl ?_
    refine et_getf (ci := 7) 26 d_M_price_34 rfl rfl in_M (by decide) fl_M_56 rfl ?_
    refine et_iload_n (i := 1) d_M_price_37 rfl rfl ?_
    refine et_iload_n (i := 2) d_M_price_38 rfl rfl ?_
    refine et_iast d_M_price_39 h79 (et_pt_in128 (fun z => q1 ((et_pt_neg x).mpr z))) ?_
    exact et_vret d_M_price_40 rfl (Nat.le_of_ble_eq_true rfl) (Nat.le_of_ble_eq_true rfl) ⟨rfl, rfl, Or.inr ⟨⟨fun z => q1 ((et_pt_neg x).mpr z), e⟩, rfl⟩⟩
  · rw [if_neg e]
    refine et_if_eq (tgt := 22) d_M_price_15 (by decide) (fun _ => ?_) (fun q => absurd (by decide) q)
    refine et_iconst (v := 1) d_M_price_22 (by decide) ?_
    refine et_putf (ci := 7) 0 d_M_price_23 h64 rfl in_M ty_M nm_M (by decide) fl_M_72 rfl rfl (fun _ => rfl) (fun _ => rfl) (Nat.le_of_ble_eq_true rfl) (fs' := [_, _, _, _, _, _, _, _, _, _, _, _, _, _, _, _, _, _, _, _, _, _, _, _, _, _, _, _, _, _, _, _, _]) rfl ?_
    refine et_aload_n (i := 0) d_M_price_26 rfl rfl ?_
    refine et_getf (ci := 7) 0 d_M_price_27 rfl rfl in_M (by decide) fl_M_72 rfl ?_
    refine et_if_ne (tgt := 40) d_M_price_30 (by decide) (fun _ => ?_) (fun q => absurd q (by decide))
    exact et_vret d_M_price_40 rfl (Nat.le_of_ble_eq_true rfl) (Nat.le_of_ble_eq_true rfl) ⟨rfl, rfl, Or.inl ⟨fun z => e z.2, rfl⟩⟩
