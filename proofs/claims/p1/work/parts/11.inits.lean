set_option maxHeartbeats 4000000 in
set_option maxRecDepth 100000 in
theorem c_A_fill {sc : et_X} {h : Nat → et_MC} {n d k N : Nat} {f : Nat → Int32} {v : Int32} (hN : N < 1000) (hk : h k = .inl (0, N, .inl f)) : et_Cn sc Y_A_fill_II d [.ref k, .int v] h n 0 0 (fun r h' n' => r = .inl none ∧ n' = n ∧ (∃ g : Nat → Int32, h' = va_up h k (.inl (0, N, .inl g)) ∧ ∀ j, j < N → g j = v)) := by
  refine et_Cn.of 2 rfl rfl (by decide) mS_A_fill_II.1 ?_
  have loop : ∀ (t i : Nat) (g : Nat → Int32) (hh : Nat → et_MC), i + t = N → hh = va_up h k (.inl (0, N, .inl g)) → (∀ j, j < i → g j = v) → et_M sc Y_A_fill_II d 0 0 (fun r h' n' => r = .inl none ∧ n' = n ∧ (∃ g : Nat → Int32, h' = va_up h k (.inl (0, N, .inl g)) ∧ ∀ j, j < N → g j = v)) 5 [some (.ref k), some (.int v), some (.int (nI i)), some (.int (nI N))] [] hh n 0 0 := by
    intro t
    induction t with
    | zero =>
      intro i g hh hi he hg
      obtain rfl : i = N := by omega
      refine et_iload_n (i := 2) d_A_fill_II_5 rfl rfl ?_
      refine et_iload_n (i := 3) d_A_fill_II_6 rfl rfl ?_
      refine et_icmp_ge (tgt := 20) d_A_fill_II_7 (by decide) (fun _ => ?_) (fun q => absurd (nI_le (Nat.le_refl _) (by omega)) q)
      exact et_vret d_A_fill_II_20 rfl (Nat.le_refl _) (Nat.le_refl _) ⟨rfl, rfl, g, he, hg⟩
    | succ t ih =>
      intro i g hh hi he hg
      have hkk : hh k = .inl (0, N, .inl g) := by rw [he]; simp [va_up]
      refine et_iload_n (i := 2) d_A_fill_II_5 rfl rfl ?_
      refine et_iload_n (i := 3) d_A_fill_II_6 rfl rfl ?_
      refine et_icmp_ge (tgt := 20) d_A_fill_II_7 (by decide) (fun q => absurd q (nI_ge (by omega) (by omega))) (fun _ => ?_)
      refine et_aload_n (i := 0) d_A_fill_II_10 rfl rfl ?_
      refine et_iload_n (i := 2) d_A_fill_II_11 rfl rfl ?_
      refine et_iload_n (i := 1) d_A_fill_II_12 rfl rfl ?_
      refine et_iast d_A_fill_II_13 hkk (vp_in_nI (show i < N by omega) (by omega)) ?_
      refine et_iinc (lv' := [_, _, _, _]) d_A_fill_II_14 rfl (v := nI (i + 1)) (nI_1 i) (by decide) rfl rfl ?_
      refine et_goto (tgt := 5) d_A_fill_II_17 (by decide) ?_
      refine ih (i + 1) (upd g (nI i).toNatClampNeg v) _ (by omega) (by rw [he, bx_uu]) (fun j hj => ?_)
      rw [nI_clamp (by omega)]
      by_cases e : j = i
      · rw [e, pk_us]
      · rw [pk_un e]; exact hg j (by omega)
  refine et_iconst (v := 0) d_A_fill_II_0 (by decide) ?_
  refine et_istore_n (i := 2) (lv' := [_, _, _, _]) d_A_fill_II_1 rfl (by decide) rfl rfl ?_
  refine et_aload_n (i := 0) d_A_fill_II_2 rfl rfl ?_
  refine et_alen (v := nI N) d_A_fill_II_3 hk rfl ?_
  refine et_istore_n (i := 3) (lv' := [_, _, _, _]) d_A_fill_II_4 rfl (by decide) rfl rfl ?_
  exact loop N 0 f h (by omega) (by funext j; by_cases e : j = k <;> simp [va_up, e, hk]) (fun j hj => absurd hj (Nat.not_lt_zero j))
set_option maxHeartbeats 4000000 in
set_option maxRecDepth 100000 in
theorem c_T_init {sc : et_X} {h : Nat → et_MC} {d : Nat} (h1 : h 1 = .inr (4, [.null, .int 0, .int 0, .int 0])) : et_Cn sc Y_T_init d [.ref 1] h 2 1 60 (fun r h' n' => r = .inl none ∧ n' = 3 ∧ h' 1 = .inr (4, [.ref 2, .int 0, .int (-1), .int (-1)]) ∧ h' 2 = .inl (0, 60, .inl (fun _ => 0)) ∧ ∀ k, k ≠ 1 → k ≠ 2 → h' k = h k) := by
  refine et_Cn.of 0 rfl rfl (by decide) mI_T_init.1 ?_
  refine et_aload_n (i := 0) d_T_init_0 rfl rfl ?_
  refine et_objInit d_T_init_1 ml_T_3 ob_inst ob_code (Nat.le_of_ble_eq_true rfl) ?_
  refine et_aload_n (i := 0) d_T_init_4 rfl rfl ?_
  refine et_bipush (v := 60) d_T_init_5 (by decide) ?_
  refine et_newi (N := 60) d_T_init_7 rfl ac_int (by decide) (by decide) (by decide) (Nat.le_of_ble_eq_true rfl) (Nat.le_of_ble_eq_true rfl) ?_
  refine et_putF (ci := 4) 0 d_T_init_9 h1 rfl in_T ty_T nm_T (by decide) fl_T_9 rfl rfl rfl rfl (fun _ => rfl) (fun _ => rfl) (Nat.le_of_ble_eq_true rfl) (fs' := [_, _, _, _]) rfl ?_
  refine et_aload_n (i := 0) d_T_init_12 rfl rfl ?_
  refine et_iconst (v := 0) d_T_init_13 (by decide) ?_
  refine et_putf (ci := 4) 1 d_T_init_14 rfl rfl in_T ty_T nm_T (by decide) fl_T_15 rfl rfl (fun _ => rfl) (fun _ => rfl) (Nat.le_of_ble_eq_true rfl) (fs' := [_, _, _, _]) rfl ?_
  refine et_aload_n (i := 0) d_T_init_17 rfl rfl ?_
  refine et_iconst (v := (-1)) d_T_init_18 (by decide) ?_
  refine et_putf (ci := 4) 2 d_T_init_19 rfl rfl in_T ty_T nm_T (by decide) fl_T_19 rfl rfl (fun _ => rfl) (fun _ => rfl) (Nat.le_of_ble_eq_true rfl) (fs' := [_, _, _, _]) rfl ?_
  refine et_aload_n (i := 0) d_T_init_22 rfl rfl ?_
  refine et_iconst (v := (-1)) d_T_init_23 (by decide) ?_
  refine et_putf (ci := 4) 3 d_T_init_24 rfl rfl in_T ty_T nm_T (by decide) fl_T_22 rfl rfl (fun _ => rfl) (fun _ => rfl) (Nat.le_of_ble_eq_true rfl) (fs' := [_, _, _, _]) rfl ?_
  exact et_vret d_T_init_27 rfl (Nat.le_of_ble_eq_true rfl) (Nat.le_of_ble_eq_true rfl) ⟨rfl, rfl, rfl, rfl, fun k e1 e2 => by simp [va_up, e1, e2]⟩
set_option maxHeartbeats 4000000 in
set_option maxRecDepth 100000 in
theorem c_G_init {sc : et_X} {h : Nat → et_MC} {d : Nat} (h1 : h 3 = .inr (1, [.null, .null, .null, .null, .int 0, .int 0, .null, .null])) : et_Cn sc Y_G_init d [.ref 3] h 4 6 240 (fun r h' n' => r = .inl none ∧ n' = 10 ∧ h' 3 = .inr (1, [.ref 4, .ref 5, .ref 6, .ref 7, .int 0, .int 0, .ref 8, .ref 9]) ∧ (h' 4 = .inl (0, 40, .inl (fun _ => 0)) ∧ h' 5 = .inl (0, 40, .inl (fun _ => 0)) ∧ h' 6 = .inl (0, 40, .inl (fun _ => 0)) ∧ h' 7 = .inl (0, 40, .inl (fun _ => 0)) ∧ h' 8 = .inl (0, 40, .inl (fun _ => 0)) ∧ h' 9 = .inl (0, 40, .inl (fun _ => 0))) ∧ ∀ k, (k < 3 ∨ 9 < k) → h' k = h k) := by
  refine et_Cn.of 0 rfl rfl (by decide) mI_G_init.1 ?_
  refine et_aload_n (i := 0) d_G_init_0 rfl rfl ?_
  refine et_objInit d_G_init_1 ml_G_3 ob_inst ob_code (Nat.le_of_ble_eq_true rfl) ?_
  refine et_aload_n (i := 0) d_G_init_4 rfl rfl ?_
  refine et_bipush (v := 40) d_G_init_5 (by decide) ?_
  refine et_newi (N := 40) d_G_init_7 rfl ac_int (by decide) (by decide) (by decide) (Nat.le_of_ble_eq_true rfl) (Nat.le_of_ble_eq_true rfl) ?_
  refine et_putF (ci := 1) 0 d_G_init_9 h1 rfl in_G ty_G nm_G (by decide) fl_G_9 rfl rfl rfl rfl (fun _ => rfl) (fun _ => rfl) (Nat.le_of_ble_eq_true rfl) (fs' := [_, _, _, _, _, _, _, _]) rfl ?_
  refine et_aload_n (i := 0) d_G_init_12 rfl rfl ?_
  refine et_bipush (v := 40) d_G_init_13 (by decide) ?_
  refine et_newi (N := 40) d_G_init_15 rfl ac_int (by decide) (by decide) (by decide) (Nat.le_of_ble_eq_true rfl) (Nat.le_of_ble_eq_true rfl) ?_
  refine et_putF (ci := 1) 1 d_G_init_17 rfl rfl in_G ty_G nm_G (by decide) fl_G_15 rfl rfl rfl rfl (fun _ => rfl) (fun _ => rfl) (Nat.le_of_ble_eq_true rfl) (fs' := [_, _, _, _, _, _, _, _]) rfl ?_
  refine et_aload_n (i := 0) d_G_init_20 rfl rfl ?_
  refine et_bipush (v := 40) d_G_init_21 (by decide) ?_
  refine et_newi (N := 40) d_G_init_23 rfl ac_int (by decide) (by decide) (by decide) (Nat.le_of_ble_eq_true rfl) (Nat.le_of_ble_eq_true rfl) ?_
  refine et_putF (ci := 1) 2 d_G_init_25 rfl rfl in_G ty_G nm_G (by decide) fl_G_18 rfl rfl rfl rfl (fun _ => rfl) (fun _ => rfl) (Nat.le_of_ble_eq_true rfl) (fs' := [_, _, _, _, _, _, _, _]) rfl ?_
  refine et_aload_n (i := 0) d_G_init_28 rfl rfl ?_
  refine et_bipush (v := 40) d_G_init_29 (by decide) ?_
  refine et_newi (N := 40) d_G_init_31 rfl ac_int (by decide) (by decide) (by decide) (Nat.le_of_ble_eq_true rfl) (Nat.le_of_ble_eq_true rfl) ?_
  refine et_putF (ci := 1) 3 d_G_init_33 rfl rfl in_G ty_G nm_G (by decide) fl_G_21 rfl rfl rfl rfl (fun _ => rfl) (fun _ => rfl) (Nat.le_of_ble_eq_true rfl) (fs' := [_, _, _, _, _, _, _, _]) rfl ?_
  refine et_aload_n (i := 0) d_G_init_36 rfl rfl ?_
  refine et_iconst (v := 0) d_G_init_37 (by decide) ?_
  refine et_putf (ci := 1) 4 d_G_init_38 rfl rfl in_G ty_G nm_G (by decide) fl_G_24 rfl rfl (fun _ => rfl) (fun _ => rfl) (Nat.le_of_ble_eq_true rfl) (fs' := [_, _, _, _, _, _, _, _]) rfl ?_
  refine et_aload_n (i := 0) d_G_init_41 rfl rfl ?_
  refine et_iconst (v := 0) d_G_init_42 (by decide) ?_
  refine et_putf (ci := 1) 5 d_G_init_43 rfl rfl in_G ty_G nm_G (by decide) fl_G_28 rfl rfl (fun _ => rfl) (fun _ => rfl) (Nat.le_of_ble_eq_true rfl) (fs' := [_, _, _, _, _, _, _, _]) rfl ?_
  refine et_aload_n (i := 0) d_G_init_46 rfl rfl ?_
  refine et_bipush (v := 40) d_G_init_47 (by decide) ?_
  refine et_newi (N := 40) d_G_init_49 rfl ac_int (by decide) (by decide) (by decide) (Nat.le_of_ble_eq_true rfl) (Nat.le_of_ble_eq_true rfl) ?_
  refine et_putF (ci := 1) 6 d_G_init_51 rfl rfl in_G ty_G nm_G (by decide) fl_G_31 rfl rfl rfl rfl (fun _ => rfl) (fun _ => rfl) (Nat.le_of_ble_eq_true rfl) (fs' := [_, _, _, _, _, _, _, _]) rfl ?_
  refine et_aload_n (i := 0) d_G_init_54 rfl rfl ?_
  refine et_bipush (v := 40) d_G_init_55 (by decide) ?_
  refine et_newi (N := 40) d_G_init_57 rfl ac_int (by decide) (by decide) (by decide) (Nat.le_of_ble_eq_true rfl) (Nat.le_of_ble_eq_true rfl) ?_
  refine et_putF (ci := 1) 7 d_G_init_59 rfl rfl in_G ty_G nm_G (by decide) fl_G_34 rfl rfl rfl rfl (fun _ => rfl) (fun _ => rfl) (Nat.le_of_ble_eq_true rfl) (fs' := [_, _, _, _, _, _, _, _]) rfl ?_
  exact et_vret d_G_init_62 rfl (Nat.le_of_ble_eq_true rfl) (Nat.le_of_ble_eq_true rfl) ⟨rfl, rfl, rfl, ⟨rfl, rfl, rfl, rfl, rfl, rfl⟩, fun k e => by simp [va_up, show k ≠ 3 by omega, show k ≠ 4 by omega, show k ≠ 5 by omega, show k ≠ 6 by omega, show k ≠ 7 by omega, show k ≠ 8 by omega, show k ≠ 9 by omega]⟩
set_option maxHeartbeats 4000000 in
set_option maxRecDepth 100000 in
theorem c_K_init {sc : et_X} {h : Nat → et_MC} {d : Nat} (h1 : h 10 = .inr (5, [.null, .null, .null])) : et_Cn sc Y_K_init d [.ref 10, .ref 3] h 11 2 63 (fun r h' n' => r = .inl none ∧ n' = 13 ∧ h' 10 = .inr (5, [.ref 11, .ref 3, .ref 12]) ∧ h' 11 = .inl (0, 3, .inl (fun _ => 0)) ∧ h' 12 = .inl (0, 60, .inl (fun _ => 0)) ∧ ∀ k, (k < 10 ∨ 12 < k) → h' k = h k) := by
  refine et_Cn.of 0 rfl rfl (by decide) mI_K_init.1 ?_
  refine et_aload_n (i := 0) d_K_init_0 rfl rfl ?_
  refine et_objInit d_K_init_1 ml_K_3 ob_inst ob_code (Nat.le_of_ble_eq_true rfl) ?_
  refine et_aload_n (i := 0) d_K_init_4 rfl rfl ?_
  refine et_iconst (v := 3) d_K_init_5 (by decide) ?_
  refine et_newi (N := 3) d_K_init_6 rfl ac_int (by decide) (by decide) (by decide) (Nat.le_of_ble_eq_true rfl) (Nat.le_of_ble_eq_true rfl) ?_
  refine et_putF (ci := 5) 0 d_K_init_8 h1 rfl in_K ty_K nm_K (by decide) fl_K_9 rfl rfl rfl rfl (fun _ => rfl) (fun _ => rfl) (Nat.le_of_ble_eq_true rfl) (fs' := [_, _, _]) rfl ?_
  refine et_aload_n (i := 0) d_K_init_11 rfl rfl ?_
  refine et_bipush (v := 60) d_K_init_12 (by decide) ?_
  refine et_newi (N := 60) d_K_init_14 rfl ac_int (by decide) (by decide) (by decide) (Nat.le_of_ble_eq_true rfl) (Nat.le_of_ble_eq_true rfl) ?_
  refine et_putF (ci := 5) 2 d_K_init_16 rfl rfl in_K ty_K nm_K (by decide) fl_K_15 rfl rfl rfl rfl (fun _ => rfl) (fun _ => rfl) (Nat.le_of_ble_eq_true rfl) (fs' := [_, _, _]) rfl ?_
  refine et_aload_n (i := 0) d_K_init_19 rfl rfl ?_
  refine et_aload_n (i := 1) d_K_init_20 rfl rfl ?_
  refine et_putF (ci := 5) 1 d_K_init_21 rfl rfl in_K ty_K nm_K (by decide) fl_K_18 rfl rfl rfl rfl (fun _ => rfl) (fun _ => rfl) (Nat.le_of_ble_eq_true rfl) (fs' := [_, _, _]) rfl ?_
  exact et_vret d_K_init_24 rfl (Nat.le_of_ble_eq_true rfl) (Nat.le_of_ble_eq_true rfl) ⟨rfl, rfl, rfl, rfl, rfl, fun k e => by simp [va_up, show k ≠ 10 by omega, show k ≠ 11 by omega, show k ≠ 12 by omega]⟩
set_option maxHeartbeats 4000000 in
set_option maxRecDepth 100000 in
theorem c_R_init {sc : et_X} {h : Nat → et_MC} {d : Nat} (h1 : h 13 = .inr (2, [.int 0, .null, .null, .null, .null, .null])) : et_Cn sc Y_R_init d [.ref 13, .ref 3, .ref 10] h 14 3 88 (fun r h' n' => r = .inl none ∧ n' = 17 ∧ h' 13 = .inr (2, [.int 0, .ref 3, .ref 10, .ref 14, .ref 15, .ref 16]) ∧ h' 14 = .inl (0, 7, .inl (fun _ => 0)) ∧ h' 15 = .inl (0, 40, .inl (fun _ => 0)) ∧ h' 16 = .inl (0, 41, .inl (fun _ => 0)) ∧ ∀ k, (k < 13 ∨ 16 < k) → h' k = h k) := by
  refine et_Cn.of 0 rfl rfl (by decide) mI_R_init.1 ?_
  refine et_aload_n (i := 0) d_R_init_0 rfl rfl ?_
  refine et_objInit d_R_init_1 ml_R_3 ob_inst ob_code (Nat.le_of_ble_eq_true rfl) ?_
  refine et_aload_n (i := 0) d_R_init_4 rfl rfl ?_
  refine et_iconst (v := 0) d_R_init_5 (by decide) ?_
  refine et_putf (ci := 2) 0 d_R_init_6 h1 rfl in_R ty_R nm_R (by decide) fl_R_9 rfl rfl (fun _ => rfl) (fun _ => rfl) (Nat.le_of_ble_eq_true rfl) (fs' := [_, _, _, _, _, _]) rfl ?_
  refine et_aload_n (i := 0) d_R_init_9 rfl rfl ?_
  refine et_bipush (v := 7) d_R_init_10 (by decide) ?_
  refine et_newi (N := 7) d_R_init_12 rfl ac_int (by decide) (by decide) (by decide) (Nat.le_of_ble_eq_true rfl) (Nat.le_of_ble_eq_true rfl) ?_
  refine et_putF (ci := 2) 3 d_R_init_14 rfl rfl in_R ty_R nm_R (by decide) fl_R_15 rfl rfl rfl rfl (fun _ => rfl) (fun _ => rfl) (Nat.le_of_ble_eq_true rfl) (fs' := [_, _, _, _, _, _]) rfl ?_
  refine et_aload_n (i := 0) d_R_init_17 rfl rfl ?_
  refine et_bipush (v := 40) d_R_init_18 (by decide) ?_
  refine et_newi (N := 40) d_R_init_20 rfl ac_int (by decide) (by decide) (by decide) (Nat.le_of_ble_eq_true rfl) (Nat.le_of_ble_eq_true rfl) ?_
  refine et_putF (ci := 2) 4 d_R_init_22 rfl rfl in_R ty_R nm_R (by decide) fl_R_19 rfl rfl rfl rfl (fun _ => rfl) (fun _ => rfl) (Nat.le_of_ble_eq_true rfl) (fs' := [_, _, _, _, _, _]) rfl ?_
  refine et_aload_n (i := 0) d_R_init_25 rfl rfl ?_
  refine et_bipush (v := 41) d_R_init_26 (by decide) ?_
  refine et_newi (N := 41) d_R_init_28 rfl ac_int (by decide) (by decide) (by decide) (Nat.le_of_ble_eq_true rfl) (Nat.le_of_ble_eq_true rfl) ?_
  refine et_putF (ci := 2) 5 d_R_init_30 rfl rfl in_R ty_R nm_R (by decide) fl_R_22 rfl rfl rfl rfl (fun _ => rfl) (fun _ => rfl) (Nat.le_of_ble_eq_true rfl) (fs' := [_, _, _, _, _, _]) rfl ?_
  refine et_aload_n (i := 0) d_R_init_33 rfl rfl ?_
  refine et_aload_n (i := 1) d_R_init_34 rfl rfl ?_
  refine et_putF (ci := 2) 1 d_R_init_35 rfl rfl in_R ty_R nm_R (by decide) fl_R_25 rfl rfl rfl rfl (fun _ => rfl) (fun _ => rfl) (Nat.le_of_ble_eq_true rfl) (fs' := [_, _, _, _, _, _]) rfl ?_
  refine et_aload_n (i := 0) d_R_init_38 rfl rfl ?_
  refine et_aload_n (i := 2) d_R_init_39 rfl rfl ?_
  refine et_putF (ci := 2) 2 d_R_init_40 rfl rfl in_R ty_R nm_R (by decide) fl_R_29 rfl rfl rfl rfl (fun _ => rfl) (fun _ => rfl) (Nat.le_of_ble_eq_true rfl) (fs' := [_, _, _, _, _, _]) rfl ?_
  exact et_vret d_R_init_43 rfl (Nat.le_of_ble_eq_true rfl) (Nat.le_of_ble_eq_true rfl) ⟨rfl, rfl, rfl, rfl, rfl, rfl, fun k e => by simp [va_up, show k ≠ 13 by omega, show k ≠ 14 by omega, show k ≠ 15 by omega, show k ≠ 16 by omega]⟩
set_option maxHeartbeats 4000000 in
set_option maxRecDepth 100000 in
theorem c_C_init {sc : et_X} {h : Nat → et_MC} {d : Nat} (h1 : h 17 = .inr (0, [.null, .null, .null, .null, .null, .null])) : et_Cn sc Y_C_init (d + 1) [.ref 17, .ref 3] h 18 45 2707 (fun r h' n' => r = .inl none ∧ n' = 63 ∧ h' 17 = .inr (0, [.ref 18, .ref 19, .ref 20, .ref 21, .ref 3, .ref 62]) ∧ (∃ g : Nat → Int32, h' 18 = .inl (0, 127, .inl g) ∧ ∀ j, j < 127 → g j = 1) ∧ h' 19 = .inl (1, 40, .inr (.inl (fun _ => 0))) ∧ h' 20 = .inl (1, 40, .inr (.inl (fun _ => 0))) ∧ h' 21 = .inl (4, 40, .inr (.inr (.inr (.inr (fun i => if i < 40 then some (22 + i) else none))))) ∧ (∀ i, i < 40 → h' (22 + i) = .inl (0, 60, .inl (fun _ => 0))) ∧ h' 62 = .inl (0, 60, .inl (fun _ => 0)) ∧ ∀ k, k < 17 → h' k = h k) := by
  refine et_Cn.of 0 rfl rfl (by decide) mI_C_init.1 ?_
  refine et_aload_n (i := 0) d_C_init_0 rfl rfl ?_
  refine et_objInit d_C_init_1 ml_C_3 ob_inst ob_code (Nat.le_of_ble_eq_true rfl) ?_
  refine et_aload_n (i := 0) d_C_init_4 rfl rfl ?_
  refine et_bipush (v := 127) d_C_init_5 (by decide) ?_
  refine et_newi (N := 127) d_C_init_7 rfl ac_int (by decide) (by decide) (by decide) (Nat.le_of_ble_eq_true rfl) (Nat.le_of_ble_eq_true rfl) ?_
  refine et_putF (ci := 0) 0 d_C_init_9 h1 rfl in_C ty_C nm_C (by decide) fl_C_9 rfl rfl rfl rfl (fun _ => rfl) (fun _ => rfl) (Nat.le_of_ble_eq_true rfl) (fs' := [_, _, _, _, _, _]) rfl ?_
  refine et_aload_n (i := 0) d_C_init_12 rfl rfl ?_
  refine et_bipush (v := 40) d_C_init_13 (by decide) ?_
  refine et_newl (N := 40) d_C_init_15 rfl ac_long (by decide) (by decide) (by decide) (Nat.le_of_ble_eq_true rfl) (Nat.le_of_ble_eq_true rfl) ?_
  refine et_putF (ci := 0) 1 d_C_init_17 rfl rfl in_C ty_C nm_C (by decide) fl_C_15 rfl rfl rfl rfl (fun _ => rfl) (fun _ => rfl) (Nat.le_of_ble_eq_true rfl) (fs' := [_, _, _, _, _, _]) rfl ?_
  refine et_aload_n (i := 0) d_C_init_20 rfl rfl ?_
  refine et_bipush (v := 40) d_C_init_21 (by decide) ?_
  refine et_newl (N := 40) d_C_init_23 rfl ac_long (by decide) (by decide) (by decide) (Nat.le_of_ble_eq_true rfl) (Nat.le_of_ble_eq_true rfl) ?_
  refine et_putF (ci := 0) 2 d_C_init_25 rfl rfl in_C ty_C nm_C (by decide) fl_C_19 rfl rfl rfl rfl (fun _ => rfl) (fun _ => rfl) (Nat.le_of_ble_eq_true rfl) (fs' := [_, _, _, _, _, _]) rfl ?_
  refine et_aload_n (i := 0) d_C_init_28 rfl rfl ?_
  refine et_bipush (v := 40) d_C_init_29 (by decide) ?_
  refine et_bipush (v := 60) d_C_init_31 (by decide) ?_
  refine et_multi (N := 40) (M := 60) d_C_init_33 cl_C_22 (by decide) (by decide) (by decide) (by decide) (by decide) (by decide) (Nat.le_of_ble_eq_true rfl) (Nat.le_of_ble_eq_true rfl) ?_
  refine et_putF (ci := 0) 3 d_C_init_37 rfl rfl in_C ty_C nm_C (by decide) fl_C_24 rfl rfl rfl rfl (fun _ => rfl) (fun _ => rfl) (Nat.le_of_ble_eq_true rfl) (fs' := [_, _, _, _, _, _]) rfl ?_
  refine et_aload_n (i := 0) d_C_init_40 rfl rfl ?_
  refine et_bipush (v := 60) d_C_init_41 (by decide) ?_
  refine et_newi (N := 60) d_C_init_43 rfl ac_int (by decide) (by decide) (by decide) (Nat.le_of_ble_eq_true rfl) (Nat.le_of_ble_eq_true rfl) ?_
  refine et_putF (ci := 0) 5 d_C_init_45 rfl rfl in_C ty_C nm_C (by decide) fl_C_27 rfl rfl rfl rfl (fun _ => rfl) (fun _ => rfl) (Nat.le_of_ble_eq_true rfl) (fs' := [_, _, _, _, _, _]) rfl ?_
  refine et_aload_n (i := 0) d_C_init_48 rfl rfl ?_
  refine et_aload_n (i := 1) d_C_init_49 rfl rfl ?_
  refine et_putF (ci := 0) 4 d_C_init_50 rfl rfl in_C ty_C nm_C (by decide) fl_C_30 rfl rfl rfl rfl (fun _ => rfl) (fun _ => rfl) (Nat.le_of_ble_eq_true rfl) (fs' := [_, _, _, _, _, _]) rfl ?_
  refine et_aload_n (i := 0) d_C_init_53 rfl rfl ?_
  refine et_getf (ci := 0) 0 d_C_init_54 rfl rfl in_C (by decide) fl_C_9 rfl ?_
  refine et_iconst (v := 1) d_C_init_57 (by decide) ?_
  refine et_invS mS_A_fill_II (As := [_, _]) rfl d_C_init_58 lk_C_34 len_A_fill_II (Nat.le_of_ble_eq_true rfl) (c_A_fill (N := 127) (by decide) rfl) (Nat.le_refl _) (Nat.le_of_ble_eq_true rfl) (Nat.le_of_ble_eq_true rfl) (fun v h' n' hp => ?_) (fun x h' n' hp => by cases hp.1)
  obtain ⟨hv, rfl, g, rfl, hg⟩ := hp
  cases hv
  refine et_vret d_C_init_61 rfl (Nat.le_of_ble_eq_true rfl) (Nat.le_of_ble_eq_true rfl) ⟨rfl, rfl, rfl, ⟨g, rfl, hg⟩, rfl, rfl, rfl, fun i hi => ?_, rfl, fun k hk => ?_⟩
  · have a1 : ∀ c, c < 22 ∨ 61 < c → 22 + i ≠ c := fun c hc => by omega
    have a2 : ¬ 22 + i < 21 := by omega
    have a3 : 22 + i < 21 + 1 + 40 := by omega
    simp [va_up, et_mh, a1 18 (by decide), a1 17 (by decide), a1 62 (by decide), a1 21 (by decide), a2, a3]
  · simp [va_up, et_mh, show k ≠ 18 by omega, show k ≠ 17 by omega, show k ≠ 62 by omega, show k < 21 by omega, show k ≠ 19 by omega, show k ≠ 20 by omega]
