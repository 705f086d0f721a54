/-- the cells of a new object of the class -/
def et_E0 (h : Nat → et_MC) : Prop :=
  h 0 = .inr (6, [.ref 1, .ref 3, .ref 10, .ref 13, .ref 17, .ref 63, .int 0]) ∧ h 1 = .inr (4, [.ref 2, .int 0, .int (-1), .int (-1)]) ∧ h 2 = .inl (0, 60, .inl (fun _ => 0)) ∧
  h 3 = .inr (1, [.ref 4, .ref 5, .ref 6, .ref 7, .int 0, .int 0, .ref 8, .ref 9]) ∧ (h 4 = .inl (0, 40, .inl (fun _ => 0)) ∧ h 5 = .inl (0, 40, .inl (fun _ => 0)) ∧ h 6 = .inl (0, 40, .inl (fun _ => 0)) ∧ h 7 = .inl (0, 40, .inl (fun _ => 0)) ∧ h 8 = .inl (0, 40, .inl (fun _ => 0)) ∧ h 9 = .inl (0, 40, .inl (fun _ => 0))) ∧
  (h 10 = .inr (5, [.ref 11, .ref 3, .ref 12]) ∧ h 11 = .inl (0, 3, .inl (fun _ => 0)) ∧ h 12 = .inl (0, 60, .inl (fun _ => 0))) ∧
  (h 13 = .inr (2, [.int 0, .ref 3, .ref 10, .ref 14, .ref 15, .ref 16]) ∧ h 14 = .inl (0, 7, .inl (fun _ => 0)) ∧ h 15 = .inl (0, 40, .inl (fun _ => 0)) ∧ h 16 = .inl (0, 41, .inl (fun _ => 0))) ∧
  (h 17 = .inr (0, [.ref 18, .ref 19, .ref 20, .ref 21, .ref 3, .ref 62]) ∧ (∃ g : Nat → Int32, h 18 = .inl (0, 127, .inl g) ∧ ∀ j, j < 127 → g j = 1) ∧ h 19 = .inl (1, 40, .inr (.inl (fun _ => 0))) ∧ h 20 = .inl (1, 40, .inr (.inl (fun _ => 0))) ∧ h 21 = .inl (4, 40, .inr (.inr (.inr (.inr (fun i => if i < 40 then some (22 + i) else none))))) ∧ (∀ i, i < 40 → h (22 + i) = .inl (0, 60, .inl (fun _ => 0))) ∧ h 62 = .inl (0, 60, .inl (fun _ => 0))) ∧
  h 63 = .inl (3, 6, .inr (.inr (.inr (.inr (fun _ => none)))))
set_option maxHeartbeats 4000000 in
set_option maxRecDepth 100000 in
theorem c_E_init {sc : et_X} {h : Nat → et_MC} {d : Nat} (f0 : h 0 = .inr (6, [.null, .null, .null, .null, .null, .null, .int 0])) : et_Cn sc Y_E_init (d + 2) [.ref 0] h 1 63 3191 (fun r h' n' => r = .inl none ∧ n' = 64 ∧ et_E0 h') := by
  refine et_Cn.of 0 rfl rfl (by decide) mI_E_init.1 ?_
  refine et_aload_n (i := 0) d_E_init_0 rfl rfl ?_
  refine et_objInit d_E_init_1 ml_E_1 ob_inst ob_code (Nat.le_of_ble_eq_true rfl) ?_
  refine et_aload_n (i := 0) d_E_init_4 rfl rfl ?_
  refine et_new (ci := 4) (fs := [.null, .int 0, .int 0, .int 0]) (ty0 := ft_T) d_E_init_5 rfl in_T ty_T cl_E_7 ins_T ini_T (fun B j hj => by rcases (show j = 0 ∨ j = 1 ∨ j = 2 ∨ j = 3 by omega) with rfl | rfl | rfl | rfl <;> rfl) (Nat.le_of_ble_eq_true rfl) (Nat.le_of_ble_eq_true rfl) ?_
  refine et_dup d_E_init_8 rfl ?_
  refine et_invI mI_T_init (As := []) rfl d_E_init_9 lk_E_9 len_T_init (Nat.le_of_ble_eq_true rfl) (c_T_init (d := d) rfl) (by omega) (Nat.le_of_ble_eq_true rfl) (Nat.le_of_ble_eq_true rfl) (fun v ha n' hp => ?_) (fun x h' n' hp => by cases hp.1)
  obtain ⟨hv, rfl, a1, a2, fr⟩ := hp
  cases hv
  have f0 := (fr 0 (by decide) (by decide)).trans f0
  refine et_putF (ci := 6) 0 d_E_init_12 f0 rfl in_E ty_E nm_E (by decide) fl_E_10 rfl rfl rfl rfl (fun _ => rfl) (fun _ => rfl) (by decide) (fs' := [_, _, _, _, _, _, _]) rfl ?_
  refine et_aload_n (i := 0) d_E_init_15 rfl rfl ?_
  refine et_new (ci := 1) (fs := [.null, .null, .null, .null, .int 0, .int 0, .null, .null]) (ty0 := ft_G) d_E_init_16 rfl in_G ty_G cl_E_16 ins_G ini_G (fun B j hj => by rcases (show j = 0 ∨ j = 1 ∨ j = 2 ∨ j = 3 ∨ j = 4 ∨ j = 5 ∨ j = 6 ∨ j = 7 by omega) with rfl | rfl | rfl | rfl | rfl | rfl | rfl | rfl <;> rfl) (Nat.le_of_ble_eq_true rfl) (Nat.le_of_ble_eq_true rfl) ?_
  refine et_dup d_E_init_19 rfl ?_
  refine et_invI mI_G_init (As := []) rfl d_E_init_20 lk_E_18 len_G_init (Nat.le_of_ble_eq_true rfl) (c_G_init (d := d) rfl) (by omega) (Nat.le_of_ble_eq_true rfl) (Nat.le_of_ble_eq_true rfl) (fun v hb n' hp => ?_) (fun x h' n' hp => by cases hp.1)
  obtain ⟨hv, rfl, b3, ⟨b4, b5, b6, b7, b8, b9⟩, fr⟩ := hp
  cases hv
  have f0 := fr 0 (Or.inl (by decide))
  have a1 := (fr 1 (Or.inl (by decide))).trans a1
  have a2 := (fr 2 (Or.inl (by decide))).trans a2
  refine et_putF (ci := 6) 1 d_E_init_23 f0 rfl in_E ty_E nm_E (by decide) fl_E_19 rfl rfl rfl rfl (fun _ => rfl) (fun _ => rfl) (by decide) (fs' := [_, _, _, _, _, _, _]) rfl ?_
  refine et_aload_n (i := 0) d_E_init_26 rfl rfl ?_
  refine et_new (ci := 5) (fs := [.null, .null, .null]) (ty0 := ft_K) d_E_init_27 rfl in_K ty_K cl_E_23 ins_K ini_K (fun B j hj => by rcases (show j = 0 ∨ j = 1 ∨ j = 2 by omega) with rfl | rfl | rfl <;> rfl) (Nat.le_of_ble_eq_true rfl) (Nat.le_of_ble_eq_true rfl) ?_
  refine et_dup d_E_init_30 rfl ?_
  refine et_aload_n (i := 0) d_E_init_31 rfl rfl ?_
  refine et_getf (ci := 6) 1 d_E_init_32 rfl rfl in_E (by decide) fl_E_19 rfl ?_
  refine et_invI mI_K_init (As := [_]) rfl d_E_init_35 lk_E_25 len_K_init (Nat.le_of_ble_eq_true rfl) (c_K_init (d := d) rfl) (by omega) (Nat.le_of_ble_eq_true rfl) (Nat.le_of_ble_eq_true rfl) (fun v hc n' hp => ?_) (fun x h' n' hp => by cases hp.1)
  obtain ⟨hv, rfl, c10, c11, c12, fr⟩ := hp
  cases hv
  have f0 := fr 0 (Or.inl (by decide))
  have a1 := (fr 1 (Or.inl (by decide))).trans a1
  have a2 := (fr 2 (Or.inl (by decide))).trans a2
  have b3 := (fr 3 (Or.inl (by decide))).trans b3
  have b4 := (fr 4 (Or.inl (by decide))).trans b4
  have b5 := (fr 5 (Or.inl (by decide))).trans b5
  have b6 := (fr 6 (Or.inl (by decide))).trans b6
  have b7 := (fr 7 (Or.inl (by decide))).trans b7
  have b8 := (fr 8 (Or.inl (by decide))).trans b8
  have b9 := (fr 9 (Or.inl (by decide))).trans b9
  refine et_putF (ci := 6) 2 d_E_init_38 f0 rfl in_E ty_E nm_E (by decide) fl_E_28 rfl rfl rfl rfl (fun _ => rfl) (fun _ => rfl) (by decide) (fs' := [_, _, _, _, _, _, _]) rfl ?_
  refine et_aload_n (i := 0) d_E_init_41 rfl rfl ?_
  refine et_new (ci := 2) (fs := [.int 0, .null, .null, .null, .null, .null]) (ty0 := ft_R) d_E_init_42 rfl in_R ty_R cl_E_32 ins_R ini_R (fun B j hj => by rcases (show j = 0 ∨ j = 1 ∨ j = 2 ∨ j = 3 ∨ j = 4 ∨ j = 5 by omega) with rfl | rfl | rfl | rfl | rfl | rfl <;> rfl) (Nat.le_of_ble_eq_true rfl) (Nat.le_of_ble_eq_true rfl) ?_
  refine et_dup d_E_init_45 rfl ?_
  refine et_aload_n (i := 0) d_E_init_46 rfl rfl ?_
  refine et_getf (ci := 6) 1 d_E_init_47 rfl rfl in_E (by decide) fl_E_19 rfl ?_
  refine et_aload_n (i := 0) d_E_init_50 rfl rfl ?_
  refine et_getf (ci := 6) 2 d_E_init_51 rfl rfl in_E (by decide) fl_E_28 rfl ?_
  refine et_invI mI_R_init (As := [_, _]) rfl d_E_init_54 lk_E_34 len_R_init (Nat.le_of_ble_eq_true rfl) (c_R_init (d := d) rfl) (by omega) (Nat.le_of_ble_eq_true rfl) (Nat.le_of_ble_eq_true rfl) (fun v hd n' hp => ?_) (fun x h' n' hp => by cases hp.1)
  obtain ⟨hv, rfl, d13, d14, d15, d16, fr⟩ := hp
  cases hv
  have f0 := fr 0 (Or.inl (by decide))
  have a1 := (fr 1 (Or.inl (by decide))).trans a1
  have a2 := (fr 2 (Or.inl (by decide))).trans a2
  have b3 := (fr 3 (Or.inl (by decide))).trans b3
  have b4 := (fr 4 (Or.inl (by decide))).trans b4
  have b5 := (fr 5 (Or.inl (by decide))).trans b5
  have b6 := (fr 6 (Or.inl (by decide))).trans b6
  have b7 := (fr 7 (Or.inl (by decide))).trans b7
  have b8 := (fr 8 (Or.inl (by decide))).trans b8
  have b9 := (fr 9 (Or.inl (by decide))).trans b9
  have c10 := (fr 10 (Or.inl (by decide))).trans c10
  have c11 := (fr 11 (Or.inl (by decide))).trans c11
  have c12 := (fr 12 (Or.inl (by decide))).trans c12
  refine et_putF (ci := 6) 3 d_E_init_57 f0 rfl in_E ty_E nm_E (by decide) fl_E_37 rfl rfl rfl rfl (fun _ => rfl) (fun _ => rfl) (by decide) (fs' := [_, _, _, _, _, _, _]) rfl ?_
  refine et_aload_n (i := 0) d_E_init_60 rfl rfl ?_
  refine et_new (ci := 0) (fs := [.null, .null, .null, .null, .null, .null]) (ty0 := ft_C) d_E_init_61 rfl in_C ty_C cl_E_41 ins_C ini_C (fun B j hj => by rcases (show j = 0 ∨ j = 1 ∨ j = 2 ∨ j = 3 ∨ j = 4 ∨ j = 5 by omega) with rfl | rfl | rfl | rfl | rfl | rfl <;> rfl) (Nat.le_of_ble_eq_true rfl) (Nat.le_of_ble_eq_true rfl) ?_
  refine et_dup d_E_init_64 rfl ?_
  refine et_aload_n (i := 0) d_E_init_65 rfl rfl ?_
  refine et_getf (ci := 6) 1 d_E_init_66 rfl rfl in_E (by decide) fl_E_19 rfl ?_
  refine et_invI mI_C_init (As := [_]) rfl d_E_init_69 lk_E_43 len_C_init (Nat.le_of_ble_eq_true rfl) (c_C_init (d := d) rfl) (by omega) (Nat.le_of_ble_eq_true rfl) (Nat.le_of_ble_eq_true rfl) (fun v he n' hp => ?_) (fun x h' n' hp => by cases hp.1)
  obtain ⟨hv, rfl, e17, e18, e19, e20, e21, e22, e62, fr⟩ := hp
  cases hv
  have f0 := fr 0 (by decide)
  have a1 := (fr 1 (by decide)).trans a1
  have a2 := (fr 2 (by decide)).trans a2
  have b3 := (fr 3 (by decide)).trans b3
  have b4 := (fr 4 (by decide)).trans b4
  have b5 := (fr 5 (by decide)).trans b5
  have b6 := (fr 6 (by decide)).trans b6
  have b7 := (fr 7 (by decide)).trans b7
  have b8 := (fr 8 (by decide)).trans b8
  have b9 := (fr 9 (by decide)).trans b9
  have c10 := (fr 10 (by decide)).trans c10
  have c11 := (fr 11 (by decide)).trans c11
  have c12 := (fr 12 (by decide)).trans c12
  have d13 := (fr 13 (by decide)).trans d13
  have d14 := (fr 14 (by decide)).trans d14
  have d15 := (fr 15 (by decide)).trans d15
  have d16 := (fr 16 (by decide)).trans d16
  refine et_putF (ci := 6) 4 d_E_init_72 f0 rfl in_E ty_E nm_E (by decide) fl_E_44 rfl rfl rfl rfl (fun _ => rfl) (fun _ => rfl) (by decide) (fs' := [_, _, _, _, _, _, _]) rfl ?_
  refine et_aload_n (i := 0) d_E_init_75 rfl rfl ?_
  refine et_bipush (v := 6) d_E_init_76 (by decide) ?_
  refine et_anew (N := 6) d_E_init_78 cl_E_48 (by decide) (by decide) (by decide) (by decide) (Nat.le_of_ble_eq_true rfl) (Nat.le_of_ble_eq_true rfl) ?_
  refine et_putF (ci := 6) 5 d_E_init_81 rfl rfl in_E ty_E nm_E (by decide) fl_E_50 rfl rfl rfl rfl (fun _ => rfl) (fun _ => rfl) (by decide) (fs' := [_, _, _, _, _, _, _]) rfl ?_
  refine et_aload_n (i := 0) d_E_init_84 rfl rfl ?_
  refine et_iconst (v := 0) d_E_init_85 (by decide) ?_
  refine et_putf (ci := 6) 6 d_E_init_86 rfl rfl in_E ty_E nm_E (by decide) fl_E_54 rfl rfl (fun _ => rfl) (fun _ => rfl) (by decide) (fs' := [_, _, _, _, _, _, _]) rfl ?_
  refine et_vret d_E_init_89 rfl (Nat.le_of_ble_eq_true rfl) (Nat.le_of_ble_eq_true rfl) ⟨rfl, rfl, ?_⟩
  refine ⟨rfl, a1, a2, b3, ⟨b4, b5, b6, b7, b8, b9⟩, ⟨c10, c11, c12⟩, ⟨d13, d14, d15, d16⟩, ⟨e17, e18, e19, e20, e21, fun i hi => ?_, e62⟩, rfl⟩
  have z : ∀ c, c = 0 ∨ c = 63 → 22 + i ≠ c := fun c hc => by omega
  simp only [va_up, z 0 (Or.inl rfl), z 63 (Or.inr rfl), if_false]
  exact e22 i hi
