set_option maxHeartbeats 4000000 in
set_option maxRecDepth 100000 in
theorem c_T_clear {sc : et_X} {h : Nat → et_MC} {d n : Nat} {sz mid wp : Int32} (h1 : h 1 = .inr (4, [.ref 2, .int sz, .int mid, .int wp])) : et_Cn sc Y_T_clear d [.ref 1] h n 0 0 (fun r h' n' => r = .inl none ∧ n' = n ∧ h' = va_up h 1 (.inr (4, [.ref 2, .int 0, .int mid, .int wp]))) := by
  refine et_Cn.of 0 rfl rfl (by decide) mV_T_clear.1 ?_
  refine et_aload_n (i := 0) d_T_clear_0 rfl rfl ?_
  refine et_iconst (v := 0) d_T_clear_1 (by decide) ?_
  refine et_putf (ci := 4) 1 d_T_clear_2 h1 rfl in_T ty_T nm_T (by decide) fl_T_15 rfl rfl (fun _ => rfl) (fun _ => rfl) (Nat.le_of_ble_eq_true rfl) (fs' := [_, _, _, _]) rfl ?_
  exact et_vret d_T_clear_5 rfl (Nat.le_of_ble_eq_true rfl) (Nat.le_of_ble_eq_true rfl) ⟨rfl, rfl, rfl⟩
set_option maxHeartbeats 4000000 in
set_option maxRecDepth 100000 in
theorem c0_T_firstWrong {sc : et_X} {h : Nat → et_MC} {d n : Nat} {z1 z2 : Int32} {mid wp : Int32} (h1 : h 1 = .inr (4, [.ref 2, .int 0, .int mid, .int wp])) : et_Cn sc Y_T_firstWrong d [.ref 1, .int z1, .int z2] h n 0 0 (fun r h' n' => r = .inl (some (.int 0)) ∧ n' = n ∧ h' = va_up h 1 (.inr (4, [.ref 2, .int 0, .int (-1), .int wp]))) := by
  refine et_Cn.of 3 rfl rfl (by decide) mV_T_firstWrong.1 ?_
  refine et_iconst (v := 1) d_T_firstWrong_0 (by decide) ?_
  refine et_istore_n (i := 3) (lv' := [_, _, _, _, _, _]) d_T_firstWrong_1 rfl (by decide) rfl rfl ?_
  refine et_aload_n (i := 0) d_T_firstWrong_2 rfl rfl ?_
  refine et_iconst (v := (-1)) d_T_firstWrong_3 (by decide) ?_
  refine et_putf (ci := 4) 2 d_T_firstWrong_4 h1 rfl in_T ty_T nm_T (by decide) fl_T_19 rfl rfl (fun _ => rfl) (fun _ => rfl) (Nat.le_of_ble_eq_true rfl) (fs' := [_, _, _, _]) rfl ?_
  refine et_iconst (v := 0) d_T_firstWrong_7 (by decide) ?_
  refine et_istore (lv' := [_, _, _, _, _, _]) d_T_firstWrong_8 (by decide) rfl rfl ?_
  refine et_iload d_T_firstWrong_10 rfl ?_
  refine et_aload_n (i := 0) d_T_firstWrong_12 rfl rfl ?_
  refine et_getf (ci := 4) 1 d_T_firstWrong_13 rfl rfl in_T (by decide) fl_T_15 rfl ?_
  refine et_icmp_ge (tgt := 108) d_T_firstWrong_16 (by decide) (fun _ => ?_) (fun q => absurd (by decide) q)
  refine et_iload_n (i := 3) d_T_firstWrong_108 rfl rfl ?_
  refine et_if_ne (tgt := 128) d_T_firstWrong_109 (by decide) (fun _ => ?_) (fun q => absurd q (by decide))
  refine et_iconst (v := 0) d_T_firstWrong_128 (by decide) ?_
  refine et_istore (lv' := [_, _, _, _, _, _]) d_T_firstWrong_129 (by decide) rfl rfl ?_
  refine et_iload d_T_firstWrong_131 rfl ?_
  refine et_if_eq (tgt := 140) d_T_firstWrong_133 (by decide) (fun _ => ?_) (fun q => absurd (by decide) q)
  refine et_aload_n (i := 0) d_T_firstWrong_140 rfl rfl ?_
  refine et_getf (ci := 4) 1 d_T_firstWrong_141 rfl rfl in_T (by decide) fl_T_15 rfl ?_
  exact et_iret d_T_firstWrong_144 rfl (Nat.le_of_ble_eq_true rfl) (Nat.le_of_ble_eq_true rfl) ⟨rfl, rfl, rfl⟩
set_option maxHeartbeats 4000000 in
set_option maxRecDepth 100000 in
theorem c_T_noteWrong {sc : et_X} {h : Nat → et_MC} {d n : Nat} {sz mid wp w : Int32} (hw : ¬ w = -1) (h1 : h 1 = .inr (4, [.ref 2, .int sz, .int mid, .int wp])) : et_Cn sc Y_T_noteWrong d [.ref 1, .int w] h n 0 0 (fun r h' n' => r = .inl (some (.int 0)) ∧ n' = n ∧ h' = va_up h 1 (.inr (4, [.ref 2, .int sz, .int mid, .int w]))) := by
  refine et_Cn.of 0 rfl rfl (by decide) mV_T_noteWrong.1 ?_
  refine et_iload_n (i := 1) d_T_noteWrong_0 rfl rfl ?_
  refine et_iconst (v := (-1)) d_T_noteWrong_1 (by decide) ?_
  refine et_icmp_ne (tgt := 7) d_T_noteWrong_2 (by decide) (fun _ => ?_) (fun q => absurd q hw)
  refine et_aload_n (i := 0) d_T_noteWrong_7 rfl rfl ?_
  refine et_iload_n (i := 1) d_T_noteWrong_8 rfl rfl ?_
  refine et_putf (ci := 4) 3 d_T_noteWrong_9 h1 rfl in_T ty_T nm_T (by decide) fl_T_22 rfl rfl (fun _ => rfl) (fun _ => rfl) (Nat.le_of_ble_eq_true rfl) (fs' := [_, _, _, _]) rfl ?_
  refine et_iconst (v := 0) d_T_noteWrong_12 (by decide) ?_
  exact et_zret d_T_noteWrong_13 rfl rfl (Nat.le_of_ble_eq_true rfl) (Nat.le_of_ble_eq_true rfl) ⟨rfl, rfl, rfl⟩
set_option maxHeartbeats 4000000 in
set_option maxRecDepth 100000 in
theorem c0_T_isTerm {sc : et_X} {h : Nat → et_MC} {d n : Nat} {mid wp : Int32} (h1 : h 1 = .inr (4, [.ref 2, .int 0, .int mid, .int wp])) : et_Cn sc Y_T_isTerm (d + 1) [.ref 1] h n 0 0 (fun r h' n' => r = .inl (some (.int 0)) ∧ n' = n ∧ ∀ k, k ≠ 1 → h' k = h k) := by
  refine et_Cn.of 0 rfl rfl (by decide) mV_T_isTerm.1 ?_
  refine et_aload_n (i := 0) d_T_isTerm_0 rfl rfl ?_
  refine et_aload_n (i := 0) d_T_isTerm_1 rfl rfl ?_
  refine et_iconst (v := 0) d_T_isTerm_2 (by decide) ?_
  refine et_iconst (v := 0) d_T_isTerm_3 (by decide) ?_
  refine et_invV mV_T_firstWrong (As := [_, _]) rfl d_T_isTerm_4 lk_T_37 len_T_firstWrong h1 rfl (Nat.le_of_ble_eq_true rfl) (c0_T_firstWrong (d := d) h1) (Nat.le_refl _) (Nat.le_of_ble_eq_true rfl) (Nat.le_of_ble_eq_true rfl) (fun v h' n' hp => ?_) (fun x h' n' hp => by cases hp.1)
  obtain ⟨hv, rfl, rfl⟩ := hp
  cases hv
  refine et_invV mV_T_noteWrong (As := [_]) rfl d_T_isTerm_7 lk_T_41 len_T_noteWrong rfl rfl (Nat.le_of_ble_eq_true rfl) (c_T_noteWrong (d := d) (by decide) rfl) (Nat.le_refl _) (Nat.le_of_ble_eq_true rfl) (Nat.le_of_ble_eq_true rfl) (fun v h' n' hp => ?_) (fun x h' n' hp => by cases hp.1)
  obtain ⟨hv, rfl, rfl⟩ := hp
  cases hv
  exact et_zret d_T_isTerm_10 rfl rfl (Nat.le_of_ble_eq_true rfl) (Nat.le_of_ble_eq_true rfl) ⟨rfl, rfl, fun k e => by simp [va_up, e]⟩
set_option maxHeartbeats 4000000 in
set_option maxRecDepth 100000 in
theorem c0_T_isEquation {sc : et_X} {h : Nat → et_MC} {d n : Nat} {mid wp : Int32} (h1 : h 1 = .inr (4, [.ref 2, .int 0, .int mid, .int wp])) : et_Cn sc Y_T_isEquation (d + 1) [.ref 1] h n 0 0 (fun r h' n' => r = .inl (some (.int 0)) ∧ n' = n ∧ ∀ k, k ≠ 1 → h' k = h k) := by
  refine et_Cn.of 0 rfl rfl (by decide) mV_T_isEquation.1 ?_
  refine et_aload_n (i := 0) d_T_isEquation_0 rfl rfl ?_
  refine et_aload_n (i := 0) d_T_isEquation_1 rfl rfl ?_
  refine et_iconst (v := 1) d_T_isEquation_2 (by decide) ?_
  refine et_iconst (v := 0) d_T_isEquation_3 (by decide) ?_
  refine et_invV mV_T_firstWrong (As := [_, _]) rfl d_T_isEquation_4 lk_T_37 len_T_firstWrong h1 rfl (Nat.le_of_ble_eq_true rfl) (c0_T_firstWrong (d := d) h1) (Nat.le_refl _) (Nat.le_of_ble_eq_true rfl) (Nat.le_of_ble_eq_true rfl) (fun v h' n' hp => ?_) (fun x h' n' hp => by cases hp.1)
  obtain ⟨hv, rfl, rfl⟩ := hp
  cases hv
  refine et_invV mV_T_noteWrong (As := [_]) rfl d_T_isEquation_7 lk_T_41 len_T_noteWrong rfl rfl (Nat.le_of_ble_eq_true rfl) (c_T_noteWrong (d := d) (by decide) rfl) (Nat.le_refl _) (Nat.le_of_ble_eq_true rfl) (Nat.le_of_ble_eq_true rfl) (fun v h' n' hp => ?_) (fun x h' n' hp => by cases hp.1)
  obtain ⟨hv, rfl, rfl⟩ := hp
  cases hv
  exact et_zret d_T_isEquation_10 rfl rfl (Nat.le_of_ble_eq_true rfl) (Nat.le_of_ble_eq_true rfl) ⟨rfl, rfl, fun k e => by simp [va_up, e]⟩
set_option maxHeartbeats 4000000 in
set_option maxRecDepth 100000 in
theorem c0_T_isRule {sc : et_X} {h : Nat → et_MC} {d n : Nat} {mid wp : Int32} (h1 : h 1 = .inr (4, [.ref 2, .int 0, .int mid, .int wp])) : et_Cn sc Y_T_isRule (d + 1) [.ref 1] h n 0 0 (fun r h' n' => r = .inl (some (.int 0)) ∧ n' = n ∧ ∀ k, k ≠ 1 → h' k = h k) := by
  refine et_Cn.of 0 rfl rfl (by decide) mV_T_isRule.1 ?_
  refine et_aload_n (i := 0) d_T_isRule_0 rfl rfl ?_
  refine et_aload_n (i := 0) d_T_isRule_1 rfl rfl ?_
  refine et_iconst (v := 1) d_T_isRule_2 (by decide) ?_
  refine et_iconst (v := 1) d_T_isRule_3 (by decide) ?_
  refine et_invV mV_T_firstWrong (As := [_, _]) rfl d_T_isRule_4 lk_T_37 len_T_firstWrong h1 rfl (Nat.le_of_ble_eq_true rfl) (c0_T_firstWrong (d := d) h1) (Nat.le_refl _) (Nat.le_of_ble_eq_true rfl) (Nat.le_of_ble_eq_true rfl) (fun v h' n' hp => ?_) (fun x h' n' hp => by cases hp.1)
  obtain ⟨hv, rfl, rfl⟩ := hp
  cases hv
  refine et_invV mV_T_noteWrong (As := [_]) rfl d_T_isRule_7 lk_T_41 len_T_noteWrong rfl rfl (Nat.le_of_ble_eq_true rfl) (c_T_noteWrong (d := d) (by decide) rfl) (Nat.le_refl _) (Nat.le_of_ble_eq_true rfl) (Nat.le_of_ble_eq_true rfl) (fun v h' n' hp => ?_) (fun x h' n' hp => by cases hp.1)
  obtain ⟨hv, rfl, rfl⟩ := hp
  cases hv
  exact et_zret d_T_isRule_10 rfl rfl (Nat.le_of_ble_eq_true rfl) (Nat.le_of_ble_eq_true rfl) ⟨rfl, rfl, fun k e => by simp [va_up, e]⟩
set_option maxHeartbeats 4000000 in
set_option maxRecDepth 100000 in
theorem c0_E_demandTerm {sc : et_X} {h : Nat → et_MC} {d n : Nat} {rc : Int32} (f0 : h 0 = .inr (6, [.ref 1, .ref 3, .ref 10, .ref 13, .ref 17, .ref 63, .int rc])) {mid wp : Int32} (h1 : h 1 = .inr (4, [.ref 2, .int 0, .int mid, .int wp])) : et_Cn sc Y_E_demandTerm (d + 2) [.ref 0] h n 1 6 (fun r h' n' => r = .inr 0 ∧ n' = n + 1 ∧ ∀ k, k ≠ 1 → k ≠ n → h' k = h k) := by
  refine et_Cn.of 0 rfl rfl (by decide) mV_E_demandTerm.1 ?_
  refine et_aload_n (i := 0) d_E_demandTerm_0 rfl rfl ?_
  refine et_getf (ci := 6) 0 d_E_demandTerm_1 f0 rfl in_E (by decide) fl_E_10 rfl ?_
  refine et_invV mV_T_isTerm (As := []) rfl d_E_demandTerm_4 lk_E_189 len_T_isTerm h1 rfl (Nat.le_of_ble_eq_true rfl) (c0_T_isTerm (d := d) h1) (Nat.le_refl _) (Nat.le_of_ble_eq_true rfl) (Nat.le_of_ble_eq_true rfl) (fun v h' n' hp => ?_) (fun x h' n' hp => by cases hp.1)
  obtain ⟨hv, rfl, fr⟩ := hp
  cases hv
  refine et_if_ne (tgt := 20) d_E_demandTerm_7 (by decide) (fun q => absurd (by decide) q) (fun _ => ?_)
  exact et_throw (x := 0) "the text is no term" d_E_demandTerm_10 d_E_demandTerm_13 d_E_demandTerm_14 d_E_demandTerm_16 d_E_demandTerm_19 (by decide +kernel) cl_E_79 ini_IllegalArgumentException ins_IllegalArgumentException thr_0 (by decide +kernel) rfl (Nat.le_of_ble_eq_true rfl) (Nat.le_of_ble_eq_true rfl) (Nat.le_of_ble_eq_true rfl) ⟨rfl, rfl, fun k e1 e2 => by simp [va_up, e2, fr k e1]⟩
set_option maxHeartbeats 4000000 in
set_option maxRecDepth 100000 in
theorem c0_E_demandEquation {sc : et_X} {h : Nat → et_MC} {d n : Nat} {rc : Int32} (f0 : h 0 = .inr (6, [.ref 1, .ref 3, .ref 10, .ref 13, .ref 17, .ref 63, .int rc])) {mid wp : Int32} (h1 : h 1 = .inr (4, [.ref 2, .int 0, .int mid, .int wp])) : et_Cn sc Y_E_demandEquation (d + 2) [.ref 0] h n 1 6 (fun r h' n' => r = .inr 0 ∧ n' = n + 1 ∧ ∀ k, k ≠ 1 → k ≠ n → h' k = h k) := by
  refine et_Cn.of 0 rfl rfl (by decide) mV_E_demandEquation.1 ?_
  refine et_aload_n (i := 0) d_E_demandEquation_0 rfl rfl ?_
  refine et_getf (ci := 6) 0 d_E_demandEquation_1 f0 rfl in_E (by decide) fl_E_10 rfl ?_
  refine et_invV mV_T_isEquation (As := []) rfl d_E_demandEquation_4 lk_E_194 len_T_isEquation h1 rfl (Nat.le_of_ble_eq_true rfl) (c0_T_isEquation (d := d) h1) (Nat.le_refl _) (Nat.le_of_ble_eq_true rfl) (Nat.le_of_ble_eq_true rfl) (fun v h' n' hp => ?_) (fun x h' n' hp => by cases hp.1)
  obtain ⟨hv, rfl, fr⟩ := hp
  cases hv
  refine et_if_ne (tgt := 20) d_E_demandEquation_7 (by decide) (fun q => absurd (by decide) q) (fun _ => ?_)
  exact et_throw (x := 0) "the text is not two terms" d_E_demandEquation_10 d_E_demandEquation_13 d_E_demandEquation_14 d_E_demandEquation_16 d_E_demandEquation_19 (by decide +kernel) cl_E_79 ini_IllegalArgumentException ins_IllegalArgumentException thr_0 (by decide +kernel) rfl (Nat.le_of_ble_eq_true rfl) (Nat.le_of_ble_eq_true rfl) (Nat.le_of_ble_eq_true rfl) ⟨rfl, rfl, fun k e1 e2 => by simp [va_up, e2, fr k e1]⟩
set_option maxHeartbeats 4000000 in
set_option maxRecDepth 100000 in
theorem c0_E_rule {sc : et_X} {h : Nat → et_MC} {d n : Nat} {rc : Int32} (f0 : h 0 = .inr (6, [.ref 1, .ref 3, .ref 10, .ref 13, .ref 17, .ref 63, .int rc])) {mid wp : Int32} (h1 : h 1 = .inr (4, [.ref 2, .int 0, .int mid, .int wp])) : et_Cn sc Y_E_rule (d + 2) [.ref 0] h n 1 6 (fun r h' n' => r = .inr 0 ∧ n' = n + 1 ∧ ∀ k, k ≠ 1 → k ≠ n → h' k = h k) := by
  refine et_Cn.of 0 rfl rfl (by decide) mV_E_rule.1 ?_
  refine et_aload_n (i := 0) d_E_rule_0 rfl rfl ?_
  refine et_getf (ci := 6) 0 d_E_rule_1 f0 rfl in_E (by decide) fl_E_10 rfl ?_
  refine et_invV mV_T_isRule (As := []) rfl d_E_rule_4 lk_E_75 len_T_isRule h1 rfl (Nat.le_of_ble_eq_true rfl) (c0_T_isRule (d := d) h1) (Nat.le_refl _) (Nat.le_of_ble_eq_true rfl) (Nat.le_of_ble_eq_true rfl) (fun v h' n' hp => ?_) (fun x h' n' hp => by cases hp.1)
  obtain ⟨hv, rfl, fr⟩ := hp
  cases hv
  refine et_if_ne (tgt := 20) d_E_rule_7 (by decide) (fun q => absurd (by decide) q) (fun _ => ?_)
  exact et_throw (x := 0) "the text is no rule" d_E_rule_10 d_E_rule_13 d_E_rule_14 d_E_rule_16 d_E_rule_19 (by decide +kernel) cl_E_79 ini_IllegalArgumentException ins_IllegalArgumentException thr_0 (by decide +kernel) rfl (Nat.le_of_ble_eq_true rfl) (Nat.le_of_ble_eq_true rfl) (Nat.le_of_ble_eq_true rfl) ⟨rfl, rfl, fun k e1 e2 => by simp [va_up, e2, fr k e1]⟩
set_option maxHeartbeats 4000000 in
set_option maxRecDepth 100000 in
theorem c0_E_add {sc : et_X} {h : Nat → et_MC} {d n : Nat} {rc : Int32} (f0 : h 0 = .inr (6, [.ref 1, .ref 3, .ref 10, .ref 13, .ref 17, .ref 63, .int rc])) {mid wp : Int32} (h1 : h 1 = .inr (4, [.ref 2, .int 0, .int mid, .int wp])) : et_Cn sc Y_E_add (d + 3) [.ref 0] h n 1 6 (fun r h' n' => r = .inr 0 ∧ n' = n + 1 ∧ ∀ k, k ≠ 1 → k ≠ n → h' k = h k) := by
  refine et_Cn.of 2 rfl rfl (by decide) mV_E_add.1 ?_
  refine et_aload_n (i := 0) d_E_add_0 rfl rfl ?_
  refine et_invV mV_E_demandTerm (As := []) rfl d_E_add_1 lk_E_94 len_E_demandTerm f0 rfl (Nat.le_of_ble_eq_true rfl) (c0_E_demandTerm (d := d) f0 h1) (Nat.le_refl _) (Nat.le_of_ble_eq_true rfl) (Nat.le_of_ble_eq_true rfl) (fun v h' n' hp => ?_) (fun x h' n' hp => ⟨rfl, hp⟩)
  cases hp.1
set_option maxHeartbeats 4000000 in
set_option maxRecDepth 100000 in
theorem c0_E_unite {sc : et_X} {h : Nat → et_MC} {d n : Nat} {rc : Int32} (f0 : h 0 = .inr (6, [.ref 1, .ref 3, .ref 10, .ref 13, .ref 17, .ref 63, .int rc])) {mid wp : Int32} (h1 : h 1 = .inr (4, [.ref 2, .int 0, .int mid, .int wp])) : et_Cn sc Y_E_unite (d + 3) [.ref 0] h n 1 6 (fun r h' n' => r = .inr 0 ∧ n' = n + 1 ∧ ∀ k, k ≠ 1 → k ≠ n → h' k = h k) := by
  refine et_Cn.of 4 rfl rfl (by decide) mV_E_unite.1 ?_
  refine et_aload_n (i := 0) d_E_unite_0 rfl rfl ?_
  refine et_invV mV_E_demandEquation (As := []) rfl d_E_unite_1 lk_E_113 len_E_demandEquation f0 rfl (Nat.le_of_ble_eq_true rfl) (c0_E_demandEquation (d := d) f0 h1) (Nat.le_refl _) (Nat.le_of_ble_eq_true rfl) (Nat.le_of_ble_eq_true rfl) (fun v h' n' hp => ?_) (fun x h' n' hp => ⟨rfl, hp⟩)
  cases hp.1
set_option maxHeartbeats 4000000 in
set_option maxRecDepth 100000 in
theorem c0_E_same {sc : et_X} {h : Nat → et_MC} {d n : Nat} {rc : Int32} (f0 : h 0 = .inr (6, [.ref 1, .ref 3, .ref 10, .ref 13, .ref 17, .ref 63, .int rc])) {mid wp : Int32} (h1 : h 1 = .inr (4, [.ref 2, .int 0, .int mid, .int wp])) : et_Cn sc Y_E_same (d + 3) [.ref 0] h n 1 6 (fun r h' n' => r = .inr 0 ∧ n' = n + 1 ∧ ∀ k, k ≠ 1 → k ≠ n → h' k = h k) := by
  refine et_Cn.of 2 rfl rfl (by decide) mV_E_same.1 ?_
  refine et_aload_n (i := 0) d_E_same_0 rfl rfl ?_
  refine et_invV mV_E_demandEquation (As := []) rfl d_E_same_1 lk_E_113 len_E_demandEquation f0 rfl (Nat.le_of_ble_eq_true rfl) (c0_E_demandEquation (d := d) f0 h1) (Nat.le_refl _) (Nat.le_of_ble_eq_true rfl) (Nat.le_of_ble_eq_true rfl) (fun v h' n' hp => ?_) (fun x h' n' hp => ⟨rfl, hp⟩)
  cases hp.1
set_option maxHeartbeats 4000000 in
set_option maxRecDepth 100000 in
theorem c0_E_takeTerm {sc : et_X} {h : Nat → et_MC} {d n : Nat} {rc : Int32} (f0 : h 0 = .inr (6, [.ref 1, .ref 3, .ref 10, .ref 13, .ref 17, .ref 63, .int rc])) {mid wp : Int32} (h1 : h 1 = .inr (4, [.ref 2, .int 0, .int mid, .int wp])) : et_Cn sc Y_E_takeTerm (d + 3) [.ref 0] h n 1 6 (fun r h' n' => r = .inr 0 ∧ n' = n + 1 ∧ ∀ k, k ≠ 1 → k ≠ n → h' k = h k) := by
  refine et_Cn.of 1 rfl rfl (by decide) mV_E_takeTerm.1 ?_
  refine et_aload_n (i := 0) d_E_takeTerm_0 rfl rfl ?_
  refine et_invV mV_E_demandTerm (As := []) rfl d_E_takeTerm_1 lk_E_94 len_E_demandTerm f0 rfl (Nat.le_of_ble_eq_true rfl) (c0_E_demandTerm (d := d) f0 h1) (Nat.le_refl _) (Nat.le_of_ble_eq_true rfl) (Nat.le_of_ble_eq_true rfl) (fun v h' n' hp => ?_) (fun x h' n' hp => ⟨rfl, hp⟩)
  cases hp.1
set_option maxHeartbeats 4000000 in
set_option maxRecDepth 100000 in
theorem c0_E_members {sc : et_X} {h : Nat → et_MC} {d n : Nat} {rc : Int32} (f0 : h 0 = .inr (6, [.ref 1, .ref 3, .ref 10, .ref 13, .ref 17, .ref 63, .int rc])) {mid wp : Int32} (h1 : h 1 = .inr (4, [.ref 2, .int 0, .int mid, .int wp])) : et_Cn sc Y_E_members (d + 4) [.ref 0] h n 1 6 (fun r h' n' => r = .inr 0 ∧ n' = n + 1 ∧ ∀ k, k ≠ 1 → k ≠ n → h' k = h k) := by
  refine et_Cn.of 1 rfl rfl (by decide) mV_E_members.1 ?_
  refine et_aload_n (i := 0) d_E_members_0 rfl rfl ?_
  refine et_invV mV_E_takeTerm (As := []) rfl d_E_members_1 lk_E_152 len_E_takeTerm f0 rfl (Nat.le_of_ble_eq_true rfl) (c0_E_takeTerm (d := d) f0 h1) (Nat.le_refl _) (Nat.le_of_ble_eq_true rfl) (Nat.le_of_ble_eq_true rfl) (fun v h' n' hp => ?_) (fun x h' n' hp => ⟨rfl, hp⟩)
  cases hp.1
set_option maxHeartbeats 4000000 in
set_option maxRecDepth 100000 in
theorem c0_E_cost {sc : et_X} {h : Nat → et_MC} {d n : Nat} {rc : Int32} (f0 : h 0 = .inr (6, [.ref 1, .ref 3, .ref 10, .ref 13, .ref 17, .ref 63, .int rc])) {mid wp : Int32} (h1 : h 1 = .inr (4, [.ref 2, .int 0, .int mid, .int wp])) : et_Cn sc Y_E_cost (d + 4) [.ref 0] h n 1 6 (fun r h' n' => r = .inr 0 ∧ n' = n + 1 ∧ ∀ k, k ≠ 1 → k ≠ n → h' k = h k) := by
  refine et_Cn.of 1 rfl rfl (by decide) mV_E_cost.1 ?_
  refine et_aload_n (i := 0) d_E_cost_0 rfl rfl ?_
  refine et_invV mV_E_takeTerm (As := []) rfl d_E_cost_1 lk_E_152 len_E_takeTerm f0 rfl (Nat.le_of_ble_eq_true rfl) (c0_E_takeTerm (d := d) f0 h1) (Nat.le_refl _) (Nat.le_of_ble_eq_true rfl) (Nat.le_of_ble_eq_true rfl) (fun v h' n' hp => ?_) (fun x h' n' hp => ⟨rfl, hp⟩)
  cases hp.1
set_option maxHeartbeats 4000000 in
set_option maxRecDepth 100000 in
theorem c0_E_best {sc : et_X} {h : Nat → et_MC} {d n : Nat} {rc : Int32} (f0 : h 0 = .inr (6, [.ref 1, .ref 3, .ref 10, .ref 13, .ref 17, .ref 63, .int rc])) {mid wp : Int32} (h1 : h 1 = .inr (4, [.ref 2, .int 0, .int mid, .int wp])) : et_Cn sc Y_E_best (d + 4) [.ref 0] h n 1 6 (fun r h' n' => r = .inr 0 ∧ n' = n + 1 ∧ ∀ k, k ≠ 1 → k ≠ n → h' k = h k) := by
  refine et_Cn.of 2 rfl rfl (by decide) mV_E_best.1 ?_
  refine et_aload_n (i := 0) d_E_best_0 rfl rfl ?_
  refine et_invV mV_E_takeTerm (As := []) rfl d_E_best_1 lk_E_152 len_E_takeTerm f0 rfl (Nat.le_of_ble_eq_true rfl) (c0_E_takeTerm (d := d) f0 h1) (Nat.le_refl _) (Nat.le_of_ble_eq_true rfl) (Nat.le_of_ble_eq_true rfl) (fun v h' n' hp => ?_) (fun x h' n' hp => ⟨rfl, hp⟩)
  cases hp.1
set_option maxHeartbeats 4000000 in
set_option maxRecDepth 100000 in
theorem c_E_place {sc : et_X} {h : Nat → et_MC} {d n : Nat} {rc sz mid wp : Int32} (f0 : h 0 = .inr (6, [.ref 1, .ref 3, .ref 10, .ref 13, .ref 17, .ref 63, .int rc])) (h1 : h 1 = .inr (4, [.ref 2, .int sz, .int mid, .int wp])) : et_Cn sc Y_E_place d [.ref 0] h n 0 0 (fun r h' n' => r = .inl (some (.int wp)) ∧ n' = n ∧ h' = h) := by
  refine et_Cn.of 0 rfl rfl (by decide) mV_E_place.1 ?_
  refine et_aload_n (i := 0) d_E_place_0 rfl rfl ?_
  refine et_getf (ci := 6) 0 d_E_place_1 f0 rfl in_E (by decide) fl_E_10 rfl ?_
  refine et_getf (ci := 4) 3 d_E_place_4 h1 rfl in_T (by decide) fl_E_72 rfl ?_
  exact et_iret d_E_place_7 rfl (Nat.le_of_ble_eq_true rfl) (Nat.le_of_ble_eq_true rfl) ⟨rfl, rfl, rfl⟩
set_option maxHeartbeats 4000000 in
set_option maxRecDepth 100000 in
theorem c_E_nodes {sc : et_X} {h : Nat → et_MC} {d n : Nat} {rc nd cs : Int32} (f0 : h 0 = .inr (6, [.ref 1, .ref 3, .ref 10, .ref 13, .ref 17, .ref 63, .int rc])) (h3 : h 3 = .inr (1, [.ref 4, .ref 5, .ref 6, .ref 7, .int nd, .int cs, .ref 8, .ref 9])) : et_Cn sc Y_E_nodes d [.ref 0] h n 0 0 (fun r h' n' => r = .inl (some (.int nd)) ∧ n' = n ∧ h' = h) := by
  refine et_Cn.of 0 rfl rfl (by decide) mV_E_nodes.1 ?_
  refine et_aload_n (i := 0) d_E_nodes_0 rfl rfl ?_
  refine et_getf (ci := 6) 1 d_E_nodes_1 f0 rfl in_E (by decide) fl_E_19 rfl ?_
  refine et_getf (ci := 1) 4 d_E_nodes_4 h3 rfl in_G (by decide) fl_E_97 rfl ?_
  exact et_iret d_E_nodes_7 rfl (Nat.le_of_ble_eq_true rfl) (Nat.le_of_ble_eq_true rfl) ⟨rfl, rfl, rfl⟩
set_option maxHeartbeats 4000000 in
set_option maxRecDepth 100000 in
theorem c_E_classes {sc : et_X} {h : Nat → et_MC} {d n : Nat} {rc nd cs : Int32} (f0 : h 0 = .inr (6, [.ref 1, .ref 3, .ref 10, .ref 13, .ref 17, .ref 63, .int rc])) (h3 : h 3 = .inr (1, [.ref 4, .ref 5, .ref 6, .ref 7, .int nd, .int cs, .ref 8, .ref 9])) : et_Cn sc Y_E_classes d [.ref 0] h n 0 0 (fun r h' n' => r = .inl (some (.int cs)) ∧ n' = n ∧ h' = h) := by
  refine et_Cn.of 0 rfl rfl (by decide) mV_E_classes.1 ?_
  refine et_aload_n (i := 0) d_E_classes_0 rfl rfl ?_
  refine et_getf (ci := 6) 1 d_E_classes_1 f0 rfl in_E (by decide) fl_E_19 rfl ?_
  refine et_getf (ci := 1) 5 d_E_classes_4 h3 rfl in_G (by decide) fl_E_100 rfl ?_
  exact et_iret d_E_classes_7 rfl (Nat.le_of_ble_eq_true rfl) (Nat.le_of_ble_eq_true rfl) ⟨rfl, rfl, rfl⟩
set_option maxHeartbeats 4000000 in
set_option maxRecDepth 100000 in
theorem c_E_wipe {sc : et_X} {h : Nat → et_MC} {d n : Nat} {rc sz mid wp : Int32} (f0 : h 0 = .inr (6, [.ref 1, .ref 3, .ref 10, .ref 13, .ref 17, .ref 63, .int rc])) (h1 : h 1 = .inr (4, [.ref 2, .int sz, .int mid, .int wp])) : et_Cn sc Y_E_wipe (d + 1) [.ref 0] h n 0 0 (fun r h' n' => r = .inl (some (.int sz)) ∧ n' = n ∧ h' = va_up h 1 (.inr (4, [.ref 2, .int 0, .int mid, .int wp]))) := by
  refine et_Cn.of 1 rfl rfl (by decide) mV_E_wipe.1 ?_
  refine et_aload_n (i := 0) d_E_wipe_0 rfl rfl ?_
  refine et_getf (ci := 6) 0 d_E_wipe_1 f0 rfl in_E (by decide) fl_E_10 rfl ?_
  refine et_getf (ci := 4) 1 d_E_wipe_4 h1 rfl in_T (by decide) fl_E_62 rfl ?_
  refine et_istore_n (i := 1) (lv' := [_, _]) d_E_wipe_7 rfl (by decide) rfl rfl ?_
  refine et_aload_n (i := 0) d_E_wipe_8 rfl rfl ?_
  refine et_getf (ci := 6) 0 d_E_wipe_9 f0 rfl in_E (by decide) fl_E_10 rfl ?_
  refine et_invV mV_T_clear (As := []) rfl d_E_wipe_12 lk_E_65 len_T_clear h1 rfl (Nat.le_of_ble_eq_true rfl) (c_T_clear (d := d) h1) (Nat.le_refl _) (Nat.le_of_ble_eq_true rfl) (Nat.le_of_ble_eq_true rfl) (fun v h' n' hp => ?_) (fun x h' n' hp => by cases hp.1)
  obtain ⟨hv, rfl, rfl⟩ := hp
  cases hv
  refine et_iload_n (i := 1) d_E_wipe_15 rfl rfl ?_
  exact et_iret d_E_wipe_16 rfl (Nat.le_of_ble_eq_true rfl) (Nat.le_of_ble_eq_true rfl) ⟨rfl, rfl, rfl⟩
set_option maxHeartbeats 4000000 in
set_option maxRecDepth 100000 in
theorem c_E_character {sc : et_X} {h : Nat → et_MC} {d n : Nat} {rc mid wp i : Int32} {sz : Nat} {f : Nat → Int32} (f0 : h 0 = .inr (6, [.ref 1, .ref 3, .ref 10, .ref 13, .ref 17, .ref 63, .int rc])) (hsz : sz ≤ 60) (h1 : h 1 = .inr (4, [.ref 2, .int (nI sz), .int mid, .int wp])) (h2 : h 2 = .inl (0, 60, .inl f)) : et_Cn sc Y_E_character d [.ref 0, .int i] h n 0 0 (fun r h' n' => r = .inl (some (.int (if i < 0 ∨ nI sz ≤ i then -1 else f i.toNatClampNeg))) ∧ n' = n ∧ h' = h) := by
  refine et_Cn.of 0 rfl rfl (by decide) mV_E_character.1 ?_
  refine et_iload_n (i := 1) d_E_character_0 rfl rfl ?_
  refine et_if_lt (tgt := 15) d_E_character_1 (by decide) (fun q => ?_) (fun q => ?_)
  · refine et_iconst (v := (-1)) d_E_character_15 (by decide) ?_
    refine et_goto (tgt := 28) d_E_character_16 (by decide) ?_
    exact et_iret d_E_character_28 rfl (Nat.le_of_ble_eq_true rfl) (Nat.le_of_ble_eq_true rfl) ⟨by rw [if_pos (Or.inl q)], rfl, rfl⟩
  · refine et_iload_n (i := 1) d_E_character_4 rfl rfl ?_
    refine et_aload_n (i := 0) d_E_character_5 rfl rfl ?_
    refine et_getf (ci := 6) 0 d_E_character_6 f0 rfl in_E (by decide) fl_E_10 rfl ?_
    refine et_getf (ci := 4) 1 d_E_character_9 h1 rfl in_T (by decide) fl_E_62 rfl ?_
    refine et_icmp_lt (tgt := 19) d_E_character_12 (by decide) (fun q2 => ?_) (fun q2 => ?_)
    · have hin : vp_in i 60 := vp_in_iff.mpr ⟨by have := Int32.not_lt.mp q; simpa using Int32.le_iff_toInt_le.mp this, by have := Int32.lt_iff_toInt_lt.mp q2; rw [nI_toInt (by omega)] at this; omega⟩
      refine et_aload_n (i := 0) d_E_character_19 rfl rfl ?_
      refine et_getf (ci := 6) 0 d_E_character_20 f0 rfl in_E (by decide) fl_E_10 rfl ?_
      refine et_getf (ci := 4) 0 d_E_character_23 h1 rfl in_T (by decide) fl_E_68 rfl ?_
      refine et_iload_n (i := 1) d_E_character_26 rfl rfl ?_
      refine et_iald d_E_character_27 h2 hin ?_
      exact et_iret d_E_character_28 rfl (Nat.le_of_ble_eq_true rfl) (Nat.le_of_ble_eq_true rfl) ⟨by rw [if_neg (fun z => z.elim q (fun z => absurd q2 (Int32.not_lt.mpr z)))], rfl, rfl⟩
    · refine et_iconst (v := (-1)) d_E_character_15 (by decide) ?_
      refine et_goto (tgt := 28) d_E_character_16 (by decide) ?_
      exact et_iret d_E_character_28 rfl (Nat.le_of_ble_eq_true rfl) (Nat.le_of_ble_eq_true rfl) ⟨by rw [if_pos (Or.inr (Int32.not_lt.mp q2))], rfl, rfl⟩
