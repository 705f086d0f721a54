/-- the model's own cell -/
abbrev et_Mo (th le a_ wr en al se ru nd cs un rs : Int32) (dc ds : Int64) : et_MC := .inr (7, [.int th, .ref 65, .int le, .int a_, .int wr, .int en, .int al, .int se, .int ru, .ref 66, .ref 67, .int nd, .int cs, .ref 68, .ref 69, .ref 70, .ref 71, .ref 72, .ref 73, .int un, .ref 74, .int rs, .ref 75, .ref 76, .ref 77, .ref 78, .ref 79, .ref 80, .ref 81, .ref 82, .ref 83, .long dc, .long ds])
/-- the cells of a new model -/
def et_M0 (h : Nat → et_MC) : Prop := h 64 = et_Mo 0 0 0 (-1) 0 0 0 0 0 0 0 0 0 0 ∧ h 65 = .inl (0, 60, .inl (fun _ => 0)) ∧ h 66 = .inl (0, 84, .inl (fun _ => 0)) ∧ h 67 = .inl (0, 12, .inl (fun _ => 0)) ∧ h 68 = .inl (0, 104, .inl (fun _ => 0)) ∧ h 69 = .inl (0, 104, .inl (fun _ => 0)) ∧ h 70 = .inl (0, 104, .inl (fun _ => 0)) ∧ h 71 = .inl (0, 104, .inl (fun _ => 0)) ∧ h 72 = .inl (0, 104, .inl (fun _ => 0)) ∧ h 73 = .inl (0, 104, .inl (fun _ => 0)) ∧ h 74 = .inl (0, 62, .inl (fun _ => 0)) ∧ h 75 = .inl (0, 3, .inl (fun _ => 0)) ∧ h 76 = .inl (0, 128, .inl (fun _ => 0)) ∧ h 77 = .inl (0, 80, .inl (fun _ => 0)) ∧ h 78 = .inl (0, 4800, .inl (fun _ => 0)) ∧ h 80 = .inl (1, 104, .inr (.inl (fun _ => 0))) ∧ h 81 = .inl (1, 104, .inr (.inl (fun _ => 0))) ∧ h 82 = .inl (0, 6240, .inl (fun _ => 0)) ∧ h 83 = .inl (0, 60, .inl (fun _ => 0)) ∧ ∃ g : Nat → Int32, h 79 = .inl (0, 128, .inl g) ∧ ∀ j, j < 128 → g j = 1
set_option maxHeartbeats 4000000 in
set_option maxRecDepth 100000 in
theorem c_M_init {sc : et_X} {h : Nat → et_MC} {d : Nat} (h64 : h 64 = .inr (7, [.int 0, .null, .int 0, .int 0, .int 0, .int 0, .int 0, .int 0, .int 0, .null, .null, .int 0, .int 0, .null, .null, .null, .null, .null, .null, .int 0, .null, .int 0, .null, .null, .null, .null, .null, .null, .null, .null, .null, .long 0, .long 0])) : et_Cn sc Y_M_init d [.ref 64] h 65 19 12489 (fun r h' n' => r = .inl none ∧ n' = 84 ∧ et_M0 h' ∧ ∀ k, k < 64 → h' k = h k) := by
  refine et_Cn.of 1 rfl rfl (by decide) mI_M_init.1 ?_
  refine et_aload_n (i := 0) d_M_init_0 rfl rfl ?_
  refine et_objInit d_M_init_1 ml_M_1 ob_inst ob_code (Nat.le_of_ble_eq_true rfl) ?_
  refine et_aload_n (i := 0) d_M_init_4 rfl rfl ?_
  refine et_bipush (v := 60) d_M_init_5 (by decide) ?_
  refine et_newi (N := 60) d_M_init_7 rfl ac_int (by decide) (by decide) (by decide) (Nat.le_of_ble_eq_true rfl) (Nat.le_of_ble_eq_true rfl) ?_
  refine et_putF (ci := 7) 1 d_M_init_9 h64 rfl in_M ty_M nm_M (by decide) fl_M_7 rfl rfl rfl rfl (fun _ => rfl) (fun _ => rfl) (Nat.le_of_ble_eq_true rfl) (fs' := [_, _, _, _, _, _, _, _, _, _, _, _, _, _, _, _, _, _, _, _, _, _, _, _, _, _, _, _, _, _, _, _, _]) rfl ?_
  refine et_aload_n (i := 0) d_M_init_12 rfl rfl ?_
  refine et_iconst (v := (-1)) d_M_init_13 (by decide) ?_
  refine et_putf (ci := 7) 4 d_M_init_14 rfl rfl in_M ty_M nm_M (by decide) fl_M_13 rfl rfl (fun _ => rfl) (fun _ => rfl) (Nat.le_of_ble_eq_true rfl) (fs' := [_, _, _, _, _, _, _, _, _, _, _, _, _, _, _, _, _, _, _, _, _, _, _, _, _, _, _, _, _, _, _, _, _]) rfl ?_
  refine et_aload_n (i := 0) d_M_init_17 rfl rfl ?_
  refine et_bipush (v := 84) d_M_init_18 (by decide) ?_
  refine et_newi (N := 84) d_M_init_20 rfl ac_int (by decide) (by decide) (by decide) (Nat.le_of_ble_eq_true rfl) (Nat.le_of_ble_eq_true rfl) ?_
  refine et_putF (ci := 7) 9 d_M_init_22 rfl rfl in_M ty_M nm_M (by decide) fl_M_17 rfl rfl rfl rfl (fun _ => rfl) (fun _ => rfl) (Nat.le_of_ble_eq_true rfl) (fs' := [_, _, _, _, _, _, _, _, _, _, _, _, _, _, _, _, _, _, _, _, _, _, _, _, _, _, _, _, _, _, _, _, _]) rfl ?_
  refine et_aload_n (i := 0) d_M_init_25 rfl rfl ?_
  refine et_bipush (v := 12) d_M_init_26 (by decide) ?_
  refine et_newi (N := 12) d_M_init_28 rfl ac_int (by decide) (by decide) (by decide) (Nat.le_of_ble_eq_true rfl) (Nat.le_of_ble_eq_true rfl) ?_
  refine et_putF (ci := 7) 10 d_M_init_30 rfl rfl in_M ty_M nm_M (by decide) fl_M_20 rfl rfl rfl rfl (fun _ => rfl) (fun _ => rfl) (Nat.le_of_ble_eq_true rfl) (fs' := [_, _, _, _, _, _, _, _, _, _, _, _, _, _, _, _, _, _, _, _, _, _, _, _, _, _, _, _, _, _, _, _, _]) rfl ?_
  refine et_aload_n (i := 0) d_M_init_33 rfl rfl ?_
  refine et_bipush (v := 104) d_M_init_34 (by decide) ?_
  refine et_newi (N := 104) d_M_init_36 rfl ac_int (by decide) (by decide) (by decide) (Nat.le_of_ble_eq_true rfl) (Nat.le_of_ble_eq_true rfl) ?_
  refine et_putF (ci := 7) 13 d_M_init_38 rfl rfl in_M ty_M nm_M (by decide) fl_M_23 rfl rfl rfl rfl (fun _ => rfl) (fun _ => rfl) (Nat.le_of_ble_eq_true rfl) (fs' := [_, _, _, _, _, _, _, _, _, _, _, _, _, _, _, _, _, _, _, _, _, _, _, _, _, _, _, _, _, _, _, _, _]) rfl ?_
  refine et_aload_n (i := 0) d_M_init_41 rfl rfl ?_
  refine et_bipush (v := 104) d_M_init_42 (by decide) ?_
  refine et_newi (N := 104) d_M_init_44 rfl ac_int (by decide) (by decide) (by decide) (Nat.le_of_ble_eq_true rfl) (Nat.le_of_ble_eq_true rfl) ?_
  refine et_putF (ci := 7) 14 d_M_init_46 rfl rfl in_M ty_M nm_M (by decide) fl_M_26 rfl rfl rfl rfl (fun _ => rfl) (fun _ => rfl) (Nat.le_of_ble_eq_true rfl) (fs' := [_, _, _, _, _, _, _, _, _, _, _, _, _, _, _, _, _, _, _, _, _, _, _, _, _, _, _, _, _, _, _, _, _]) rfl ?_
  refine et_aload_n (i := 0) d_M_init_49 rfl rfl ?_
  refine et_bipush (v := 104) d_M_init_50 (by decide) ?_
  refine et_newi (N := 104) d_M_init_52 rfl ac_int (by decide) (by decide) (by decide) (Nat.le_of_ble_eq_true rfl) (Nat.le_of_ble_eq_true rfl) ?_
  refine et_putF (ci := 7) 15 d_M_init_54 rfl rfl in_M ty_M nm_M (by decide) fl_M_29 rfl rfl rfl rfl (fun _ => rfl) (fun _ => rfl) (Nat.le_of_ble_eq_true rfl) (fs' := [_, _, _, _, _, _, _, _, _, _, _, _, _, _, _, _, _, _, _, _, _, _, _, _, _, _, _, _, _, _, _, _, _]) rfl ?_
  refine et_aload_n (i := 0) d_M_init_57 rfl rfl ?_
  refine et_bipush (v := 104) d_M_init_58 (by decide) ?_
  refine et_newi (N := 104) d_M_init_60 rfl ac_int (by decide) (by decide) (by decide) (Nat.le_of_ble_eq_true rfl) (Nat.le_of_ble_eq_true rfl) ?_
  refine et_putF (ci := 7) 16 d_M_init_62 rfl rfl in_M ty_M nm_M (by decide) fl_M_32 rfl rfl rfl rfl (fun _ => rfl) (fun _ => rfl) (Nat.le_of_ble_eq_true rfl) (fs' := [_, _, _, _, _, _, _, _, _, _, _, _, _, _, _, _, _, _, _, _, _, _, _, _, _, _, _, _, _, _, _, _, _]) rfl ?_
  refine et_aload_n (i := 0) d_M_init_65 rfl rfl ?_
  refine et_bipush (v := 104) d_M_init_66 (by decide) ?_
  refine et_newi (N := 104) d_M_init_68 rfl ac_int (by decide) (by decide) (by decide) (Nat.le_of_ble_eq_true rfl) (Nat.le_of_ble_eq_true rfl) ?_
  refine et_putF (ci := 7) 17 d_M_init_70 rfl rfl in_M ty_M nm_M (by decide) fl_M_35 rfl rfl rfl rfl (fun _ => rfl) (fun _ => rfl) (Nat.le_of_ble_eq_true rfl) (fs' := [_, _, _, _, _, _, _, _, _, _, _, _, _, _, _, _, _, _, _, _, _, _, _, _, _, _, _, _, _, _, _, _, _]) rfl ?_
  refine et_aload_n (i := 0) d_M_init_73 rfl rfl ?_
  refine et_bipush (v := 104) d_M_init_74 (by decide) ?_
  refine et_newi (N := 104) d_M_init_76 rfl ac_int (by decide) (by decide) (by decide) (Nat.le_of_ble_eq_true rfl) (Nat.le_of_ble_eq_true rfl) ?_
  refine et_putF (ci := 7) 18 d_M_init_78 rfl rfl in_M ty_M nm_M (by decide) fl_M_38 rfl rfl rfl rfl (fun _ => rfl) (fun _ => rfl) (Nat.le_of_ble_eq_true rfl) (fs' := [_, _, _, _, _, _, _, _, _, _, _, _, _, _, _, _, _, _, _, _, _, _, _, _, _, _, _, _, _, _, _, _, _]) rfl ?_
  refine et_aload_n (i := 0) d_M_init_81 rfl rfl ?_
  refine et_bipush (v := 62) d_M_init_82 (by decide) ?_
  refine et_newi (N := 62) d_M_init_84 rfl ac_int (by decide) (by decide) (by decide) (Nat.le_of_ble_eq_true rfl) (Nat.le_of_ble_eq_true rfl) ?_
  refine et_putF (ci := 7) 20 d_M_init_86 rfl rfl in_M ty_M nm_M (by decide) fl_M_41 rfl rfl rfl rfl (fun _ => rfl) (fun _ => rfl) (Nat.le_of_ble_eq_true rfl) (fs' := [_, _, _, _, _, _, _, _, _, _, _, _, _, _, _, _, _, _, _, _, _, _, _, _, _, _, _, _, _, _, _, _, _]) rfl ?_
  refine et_aload_n (i := 0) d_M_init_89 rfl rfl ?_
  refine et_iconst (v := 3) d_M_init_90 (by decide) ?_
  refine et_newi (N := 3) d_M_init_91 rfl ac_int (by decide) (by decide) (by decide) (Nat.le_of_ble_eq_true rfl) (Nat.le_of_ble_eq_true rfl) ?_
  refine et_putF (ci := 7) 22 d_M_init_93 rfl rfl in_M ty_M nm_M (by decide) fl_M_44 rfl rfl rfl rfl (fun _ => rfl) (fun _ => rfl) (Nat.le_of_ble_eq_true rfl) (fs' := [_, _, _, _, _, _, _, _, _, _, _, _, _, _, _, _, _, _, _, _, _, _, _, _, _, _, _, _, _, _, _, _, _]) rfl ?_
  refine et_aload_n (i := 0) d_M_init_96 rfl rfl ?_
  refine et_sipush (v := 128) d_M_init_97 (by decide) ?_
  refine et_newi (N := 128) d_M_init_100 rfl ac_int (by decide) (by decide) (by decide) (Nat.le_of_ble_eq_true rfl) (Nat.le_of_ble_eq_true rfl) ?_
  refine et_putF (ci := 7) 23 d_M_init_102 rfl rfl in_M ty_M nm_M (by decide) fl_M_47 rfl rfl rfl rfl (fun _ => rfl) (fun _ => rfl) (Nat.le_of_ble_eq_true rfl) (fs' := [_, _, _, _, _, _, _, _, _, _, _, _, _, _, _, _, _, _, _, _, _, _, _, _, _, _, _, _, _, _, _, _, _]) rfl ?_
  refine et_aload_n (i := 0) d_M_init_105 rfl rfl ?_
  refine et_bipush (v := 80) d_M_init_106 (by decide) ?_
  refine et_newi (N := 80) d_M_init_108 rfl ac_int (by decide) (by decide) (by decide) (Nat.le_of_ble_eq_true rfl) (Nat.le_of_ble_eq_true rfl) ?_
  refine et_putF (ci := 7) 24 d_M_init_110 rfl rfl in_M ty_M nm_M (by decide) fl_M_50 rfl rfl rfl rfl (fun _ => rfl) (fun _ => rfl) (Nat.le_of_ble_eq_true rfl) (fs' := [_, _, _, _, _, _, _, _, _, _, _, _, _, _, _, _, _, _, _, _, _, _, _, _, _, _, _, _, _, _, _, _, _]) rfl ?_
  refine et_aload_n (i := 0) d_M_init_113 rfl rfl ?_
  refine et_sipush (v := 4800) d_M_init_114 (by decide) ?_
  refine et_newi (N := 4800) d_M_init_117 rfl ac_int (by decide) (by decide) (by decide) (Nat.le_of_ble_eq_true rfl) (Nat.le_of_ble_eq_true rfl) ?_
  refine et_putF (ci := 7) 25 d_M_init_119 rfl rfl in_M ty_M nm_M (by decide) fl_M_53 rfl rfl rfl rfl (fun _ => rfl) (fun _ => rfl) (Nat.le_of_ble_eq_true rfl) (fs' := [_, _, _, _, _, _, _, _, _, _, _, _, _, _, _, _, _, _, _, _, _, _, _, _, _, _, _, _, _, _, _, _, _]) rfl ?_
  refine et_aload_n (i := 0) d_M_init_122 rfl rfl ?_
  refine et_sipush (v := 128) d_M_init_123 (by decide) ?_
  refine et_newi (N := 128) d_M_init_126 rfl ac_int (by decide) (by decide) (by decide) (Nat.le_of_ble_eq_true rfl) (Nat.le_of_ble_eq_true rfl) ?_
  refine et_putF (ci := 7) 26 d_M_init_128 rfl rfl in_M ty_M nm_M (by decide) fl_M_56 rfl rfl rfl rfl (fun _ => rfl) (fun _ => rfl) (Nat.le_of_ble_eq_true rfl) (fs' := [_, _, _, _, _, _, _, _, _, _, _, _, _, _, _, _, _, _, _, _, _, _, _, _, _, _, _, _, _, _, _, _, _]) rfl ?_
  refine et_aload_n (i := 0) d_M_init_131 rfl rfl ?_
  refine et_bipush (v := 104) d_M_init_132 (by decide) ?_
  refine et_newl (N := 104) d_M_init_134 rfl ac_long (by decide) (by decide) (by decide) (Nat.le_of_ble_eq_true rfl) (Nat.le_of_ble_eq_true rfl) ?_
  refine et_putF (ci := 7) 27 d_M_init_136 rfl rfl in_M ty_M nm_M (by decide) fl_M_59 rfl rfl rfl rfl (fun _ => rfl) (fun _ => rfl) (Nat.le_of_ble_eq_true rfl) (fs' := [_, _, _, _, _, _, _, _, _, _, _, _, _, _, _, _, _, _, _, _, _, _, _, _, _, _, _, _, _, _, _, _, _]) rfl ?_
  refine et_aload_n (i := 0) d_M_init_139 rfl rfl ?_
  refine et_bipush (v := 104) d_M_init_140 (by decide) ?_
  refine et_newl (N := 104) d_M_init_142 rfl ac_long (by decide) (by decide) (by decide) (Nat.le_of_ble_eq_true rfl) (Nat.le_of_ble_eq_true rfl) ?_
  refine et_putF (ci := 7) 28 d_M_init_144 rfl rfl in_M ty_M nm_M (by decide) fl_M_63 rfl rfl rfl rfl (fun _ => rfl) (fun _ => rfl) (Nat.le_of_ble_eq_true rfl) (fs' := [_, _, _, _, _, _, _, _, _, _, _, _, _, _, _, _, _, _, _, _, _, _, _, _, _, _, _, _, _, _, _, _, _]) rfl ?_
  refine et_aload_n (i := 0) d_M_init_147 rfl rfl ?_
  refine et_sipush (v := 6240) d_M_init_148 (by decide) ?_
  refine et_newi (N := 6240) d_M_init_151 rfl ac_int (by decide) (by decide) (by decide) (Nat.le_of_ble_eq_true rfl) (Nat.le_of_ble_eq_true rfl) ?_
  refine et_putF (ci := 7) 29 d_M_init_153 rfl rfl in_M ty_M nm_M (by decide) fl_M_66 rfl rfl rfl rfl (fun _ => rfl) (fun _ => rfl) (Nat.le_of_ble_eq_true rfl) (fs' := [_, _, _, _, _, _, _, _, _, _, _, _, _, _, _, _, _, _, _, _, _, _, _, _, _, _, _, _, _, _, _, _, _]) rfl ?_
  refine et_aload_n (i := 0) d_M_init_156 rfl rfl ?_
  refine et_bipush (v := 60) d_M_init_157 (by decide) ?_
  refine et_newi (N := 60) d_M_init_159 rfl ac_int (by decide) (by decide) (by decide) (Nat.le_of_ble_eq_true rfl) (Nat.le_of_ble_eq_true rfl) ?_
  refine et_putF (ci := 7) 30 d_M_init_161 rfl rfl in_M ty_M nm_M (by decide) fl_M_69 rfl rfl rfl rfl (fun _ => rfl) (fun _ => rfl) (Nat.le_of_ble_eq_true rfl) (fs' := [_, _, _, _, _, _, _, _, _, _, _, _, _, _, _, _, _, _, _, _, _, _, _, _, _, _, _, _, _, _, _, _, _]) rfl ?_
  refine et_iconst (v := 0) d_M_init_164 (by decide) ?_
  refine et_istore_n (i := 1) (lv' := [_, _]) d_M_init_165 rfl (by decide) rfl rfl ?_
  have loop : ∀ (t i : Nat) (g : Nat → Int32) (hh : Nat → et_MC), i + t = 128 → hh 64 = et_Mo 0 0 0 (-1) 0 0 0 0 0 0 0 0 0 0 → hh 79 = .inl (0, 128, .inl g) → (hh 65 = .inl (0, 60, .inl (fun _ => 0)) ∧ hh 66 = .inl (0, 84, .inl (fun _ => 0)) ∧ hh 67 = .inl (0, 12, .inl (fun _ => 0)) ∧ hh 68 = .inl (0, 104, .inl (fun _ => 0)) ∧ hh 69 = .inl (0, 104, .inl (fun _ => 0)) ∧ hh 70 = .inl (0, 104, .inl (fun _ => 0)) ∧ hh 71 = .inl (0, 104, .inl (fun _ => 0)) ∧ hh 72 = .inl (0, 104, .inl (fun _ => 0)) ∧ hh 73 = .inl (0, 104, .inl (fun _ => 0)) ∧ hh 74 = .inl (0, 62, .inl (fun _ => 0)) ∧ hh 75 = .inl (0, 3, .inl (fun _ => 0)) ∧ hh 76 = .inl (0, 128, .inl (fun _ => 0)) ∧ hh 77 = .inl (0, 80, .inl (fun _ => 0)) ∧ hh 78 = .inl (0, 4800, .inl (fun _ => 0)) ∧ hh 80 = .inl (1, 104, .inr (.inl (fun _ => 0))) ∧ hh 81 = .inl (1, 104, .inr (.inl (fun _ => 0))) ∧ hh 82 = .inl (0, 6240, .inl (fun _ => 0)) ∧ hh 83 = .inl (0, 60, .inl (fun _ => 0))) → (∀ k, k < 64 → hh k = h k) → (∀ j, j < i → g j = 1) → et_M sc Y_M_init d 19 12489 (fun r h' n' => r = .inl none ∧ n' = 84 ∧ et_M0 h' ∧ ∀ k, k < 64 → h' k = h k) 166 [some (.ref 64), some (.int (nI i))] [] hh 84 19 12489 := by
    intro t
    induction t with
    | zero =>
      intro i g hh hi k64 k79 kr fr hg
      obtain rfl : i = 128 := by omega
      refine et_iload_n (i := 1) d_M_init_166 rfl rfl ?_
      refine et_sipush (v := 128) d_M_init_167 (by decide) ?_
      refine et_icmp_ge (tgt := 186) d_M_init_170 (by decide) (fun _ => ?_) (fun q => absurd (by decide) q)
      obtain ⟨z65, z66, z67, z68, z69, z70, z71, z72, z73, z74, z75, z76, z77, z78, z80, z81, z82, z83⟩ := kr
      exact et_vret d_M_init_186 rfl (Nat.le_refl _) (Nat.le_refl _) ⟨rfl, rfl, ⟨k64, z65, z66, z67, z68, z69, z70, z71, z72, z73, z74, z75, z76, z77, z78, z80, z81, z82, z83, g, k79, hg⟩, fr⟩
    | succ t ih =>
      intro i g hh hi k64 k79 kr fr hg
      refine et_iload_n (i := 1) d_M_init_166 rfl rfl ?_
      refine et_sipush (v := 128) d_M_init_167 (by decide) ?_
      refine et_icmp_ge (tgt := 186) d_M_init_170 (by decide) (fun q => absurd q (show ¬ (128 : Int32) ≤ nI i from nI_ge (a := i) (b := 128) (by omega) (by decide))) (fun _ => ?_)
      refine et_aload_n (i := 0) d_M_init_173 rfl rfl ?_
      refine et_getf (ci := 7) 26 d_M_init_174 k64 rfl in_M (by decide) fl_M_56 rfl ?_
      refine et_iload_n (i := 1) d_M_init_177 rfl rfl ?_
      refine et_iconst (v := 1) d_M_init_178 (by decide) ?_
      refine et_iast d_M_init_179 k79 (vp_in_nI (show i < 128 by omega) (by decide)) ?_
      refine et_iinc (lv' := [_, _]) d_M_init_180 rfl (v := nI (i + 1)) (nI_1 i) (by decide) rfl rfl ?_
      refine et_goto (tgt := 166) d_M_init_183 (by decide) ?_
      refine ih (i + 1) (upd g (nI i).toNatClampNeg 1) _ (by omega) k64 rfl kr (fun k hk => ?_) (fun j hj => ?_)
      · simp only [va_up, show k ≠ 79 by omega, if_false]
        exact fr k hk
      · rw [nI_clamp (by omega)]
        by_cases e : j = i
        · rw [e, pk_us]
        · rw [pk_un e]; exact hg j (by omega)
  refine loop 128 0 (fun _ => 0) _ rfl rfl rfl ⟨rfl, rfl, rfl, rfl, rfl, rfl, rfl, rfl, rfl, rfl, rfl, rfl, rfl, rfl, rfl, rfl, rfl, rfl⟩ (fun k hk => ?_) (fun j hj => absurd hj (Nat.not_lt_zero j))
  simp [va_up, show k ≠ 64 by omega, show k ≠ 65 by omega, show k ≠ 66 by omega, show k ≠ 67 by omega, show k ≠ 68 by omega, show k ≠ 69 by omega, show k ≠ 70 by omega, show k ≠ 71 by omega, show k ≠ 72 by omega, show k ≠ 73 by omega, show k ≠ 74 by omega, show k ≠ 75 by omega, show k ≠ 76 by omega, show k ≠ 77 by omega, show k ≠ 78 by omega, show k ≠ 79 by omega, show k ≠ 80 by omega, show k ≠ 81 by omega, show k ≠ 82 by omega, show k ≠ 83 by omega]
set_option maxHeartbeats 4000000 in
set_option maxRecDepth 100000 in
theorem c_M_thrown {sc : et_X} {h : Nat → et_MC} {d n : Nat} {th : Int32} {fs : List Value} (h64 : h 64 = .inr (7, .int th :: fs)) : et_Cn sc Y_M_thrown d [.ref 64] h n 0 0 (fun r h' n' => r = .inl (some (.int th)) ∧ n' = n ∧ h' = h) := by
  refine et_Cn.of 0 rfl rfl (by decide) mV_M_thrown.1 ?_
  refine et_aload_n (i := 0) d_M_thrown_0 rfl rfl ?_
  refine et_getf (ci := 7) 0 d_M_thrown_1 h64 rfl in_M (by decide) fl_M_72 rfl ?_
  exact et_iret d_M_thrown_4 rfl (Nat.le_of_ble_eq_true rfl) (Nat.le_of_ble_eq_true rfl) ⟨rfl, rfl, rfl⟩
set_option maxHeartbeats 4000000 in
set_option maxRecDepth 100000 in
theorem c_M_refuse {sc : et_X} {h : Nat → et_MC} {d n : Nat} {th le a_ wr en al se ru nd cs un rs : Int32} {dc ds : Int64} (x : Int32) (h64 : h 64 = et_Mo th le a_ wr en al se ru nd cs un rs dc ds) : et_Cn sc Y_M_refuse d [.ref 64, .int x] h n 0 0 (fun r h' n' => r = .inl (some (.int 0)) ∧ n' = n ∧ h' = va_up h 64 (et_Mo x le a_ wr en al se ru nd cs un rs dc ds)) := by
  refine et_Cn.of 0 rfl rfl (by decide) mV_M_refuse.1 ?_
  refine et_aload_n (i := 0) d_M_refuse_0 rfl rfl ?_
  refine et_iload_n (i := 1) d_M_refuse_1 rfl rfl ?_
  refine et_putf (ci := 7) 0 d_M_refuse_2 h64 rfl in_M ty_M nm_M (by decide) fl_M_72 rfl rfl (fun _ => rfl) (fun _ => rfl) (Nat.le_of_ble_eq_true rfl) (fs' := [_, _, _, _, _, _, _, _, _, _, _, _, _, _, _, _, _, _, _, _, _, _, _, _, _, _, _, _, _, _, _, _, _]) rfl ?_
  refine et_iconst (v := 0) d_M_refuse_5 (by decide) ?_
  exact et_iret d_M_refuse_6 rfl (Nat.le_of_ble_eq_true rfl) (Nat.le_of_ble_eq_true rfl) ⟨rfl, rfl, rfl⟩
set_option maxHeartbeats 4000000 in
set_option maxRecDepth 100000 in
theorem c_M_within {sc : et_X} {h : Nat → et_MC} {d n : Nat} (x a b : Int32) : et_Cn sc Y_M_within d [.int x, .int a, .int b] h n 0 0 (fun r h' n' => r = .inl (some (.int (if a ≤ x ∧ x ≤ b then 1 else 0))) ∧ n' = n ∧ h' = h) := by
  refine et_Cn.of 0 rfl rfl (by decide) mS_M_within.1 ?_
  refine et_iload_n (i := 0) d_M_within_0 rfl rfl ?_
  refine et_iload_n (i := 1) d_M_within_1 rfl rfl ?_
  refine et_icmp_lt (tgt := 14) d_M_within_2 (by decide) (fun q1 => ?_) (fun q1 => ?_)
  · rw [if_neg (fun z => absurd z.1 (Int32.not_le.mpr q1))]
    refine et_iconst (v := 0) d_M_within_14 (by decide) ?_
    exact et_zret d_M_within_15 rfl rfl (Nat.le_of_ble_eq_true rfl) (Nat.le_of_ble_eq_true rfl) ⟨rfl, rfl, rfl⟩
  refine et_iload_n (i := 0) d_M_within_5 rfl rfl ?_
  refine et_iload_n (i := 2) d_M_within_6 rfl rfl ?_
  refine et_icmp_gt (tgt := 14) d_M_within_7 (by decide) (fun q2 => ?_) (fun q2 => ?_)
  · rw [if_neg (fun z => absurd z.2 (Int32.not_le.mpr q2))]
    refine et_iconst (v := 0) d_M_within_14 (by decide) ?_
    exact et_zret d_M_within_15 rfl rfl (Nat.le_of_ble_eq_true rfl) (Nat.le_of_ble_eq_true rfl) ⟨rfl, rfl, rfl⟩
  rw [if_pos ⟨Int32.not_lt.mp q1, Int32.not_lt.mp q2⟩]
  refine et_iconst (v := 1) d_M_within_10 (by decide) ?_
  refine et_goto (tgt := 15) d_M_within_11 (by decide) ?_
  exact et_zret d_M_within_15 rfl rfl (Nat.le_of_ble_eq_true rfl) (Nat.le_of_ble_eq_true rfl) ⟨rfl, rfl, rfl⟩
set_option maxHeartbeats 4000000 in
set_option maxRecDepth 100000 in
theorem c_M_takes {sc : et_X} {h : Nat → et_MC} {d n : Nat} (x : Int32) : et_Cn sc Y_M_takes (d + 1) [.int x] h n 0 0 (fun r h' n' => r = .inl (some (.int (et_pt x))) ∧ n' = n ∧ h' = h) := by
  refine et_Cn.of 0 rfl rfl (by decide) mS_M_takes.1 ?_
  refine et_iload_n (i := 0) d_M_takes_0 rfl rfl ?_
  refine et_bipush (v := 43) d_M_takes_1 (by decide) ?_
  refine et_icmp_eq (tgt := 18) d_M_takes_3 (by decide) (fun e43 => ?_) (fun e43 => ?_)
  · subst e43
    refine et_iconst (v := 2) d_M_takes_18 (by decide) ?_
    exact et_iret d_M_takes_19 rfl (Nat.le_of_ble_eq_true rfl) (Nat.le_of_ble_eq_true rfl) ⟨by decide, rfl, rfl⟩
  refine et_iload_n (i := 0) d_M_takes_6 rfl rfl ?_
  refine et_bipush (v := 42) d_M_takes_7 (by decide) ?_
  refine et_icmp_eq (tgt := 18) d_M_takes_9 (by decide) (fun e42 => ?_) (fun e42 => ?_)
  · subst e42
    refine et_iconst (v := 2) d_M_takes_18 (by decide) ?_
    exact et_iret d_M_takes_19 rfl (Nat.le_of_ble_eq_true rfl) (Nat.le_of_ble_eq_true rfl) ⟨by decide, rfl, rfl⟩
  refine et_iload_n (i := 0) d_M_takes_12 rfl rfl ?_
  refine et_bipush (v := 94) d_M_takes_13 (by decide) ?_
  refine et_icmp_ne (tgt := 20) d_M_takes_15 (by decide) (fun e94 => ?_) (fun e94 => ?_)
  rotate_left
  · subst e94
    refine et_iconst (v := 2) d_M_takes_18 (by decide) ?_
    exact et_iret d_M_takes_19 rfl (Nat.le_of_ble_eq_true rfl) (Nat.le_of_ble_eq_true rfl) ⟨by decide, rfl, rfl⟩
  refine et_iload_n (i := 0) d_M_takes_20 rfl rfl ?_
  refine et_bipush (v := 45) d_M_takes_21 (by decide) ?_
  refine et_icmp_eq (tgt := 32) d_M_takes_23 (by decide) (fun e45 => ?_) (fun e45 => ?_)
  · subst e45
    refine et_iconst (v := 1) d_M_takes_32 (by decide) ?_
    exact et_iret d_M_takes_33 rfl (Nat.le_of_ble_eq_true rfl) (Nat.le_of_ble_eq_true rfl) ⟨by decide, rfl, rfl⟩
  refine et_iload_n (i := 0) d_M_takes_26 rfl rfl ?_
  refine et_bipush (v := 33) d_M_takes_27 (by decide) ?_
  refine et_icmp_ne (tgt := 34) d_M_takes_29 (by decide) (fun e33 => ?_) (fun e33 => ?_)
  rotate_left
  · subst e33
    refine et_iconst (v := 1) d_M_takes_32 (by decide) ?_
    exact et_iret d_M_takes_33 rfl (Nat.le_of_ble_eq_true rfl) (Nat.le_of_ble_eq_true rfl) ⟨by decide, rfl, rfl⟩
  refine et_iload_n (i := 0) d_M_takes_34 rfl rfl ?_
  refine et_bipush (v := 48) d_M_takes_35 (by decide) ?_
  refine et_bipush (v := 57) d_M_takes_37 (by decide) ?_
  refine et_invS mS_M_within (As := [_, _, _]) rfl d_M_takes_39 lk_M_75 len_M_within (Nat.le_of_ble_eq_true rfl) (c_M_within (d := d) x 48 57) (Nat.le_refl _) (Nat.le_of_ble_eq_true rfl) (Nat.le_of_ble_eq_true rfl) (fun v h' n' hp => ?_) (fun x h' n' hp => by cases hp.1)
  obtain ⟨hv, rfl, rfl⟩ := hp
  cases hv
  by_cases e : 48 ≤ x ∧ x ≤ 57
  · rw [if_pos e]
    have hr : et_pt x = 0 := by
      have c1 := et_le_i e.1
      have c2 := et_le_i e.2
      have a1 : (48 : Int32).toInt = 48 := rfl
      have a2 : (57 : Int32).toInt = 57 := rfl
      have n1 : ¬ x = 120 := fun z => by rw [z] at c2; exact absurd c2 (by decide)
      have n2 : ¬ x = 121 := fun z => by rw [z] at c2; exact absurd c2 (by decide)
      have n3 : ¬ x = 122 := fun z => by rw [z] at c2; exact absurd c2 (by decide)
      simp [et_pt, e33, e42, e43, e45, e94, n1, n2, n3, e]
    rw [hr]
    refine et_if_ne (tgt := 56) d_M_takes_42 (by decide) (fun _ => ?_) (fun q => absurd q (by decide))
    refine et_iconst (v := 0) d_M_takes_56 (by decide) ?_
    refine et_goto (tgt := 61) d_M_takes_57 (by decide) ?_
    exact et_iret d_M_takes_61 rfl (Nat.le_of_ble_eq_true rfl) (Nat.le_of_ble_eq_true rfl) ⟨rfl, rfl, rfl⟩
  rw [if_neg e]
  refine et_if_ne (tgt := 56) d_M_takes_42 (by decide) (fun q => absurd (by decide) q) (fun _ => ?_)
  refine et_iload_n (i := 0) d_M_takes_45 rfl rfl ?_
  refine et_bipush (v := 120) d_M_takes_46 (by decide) ?_
  refine et_bipush (v := 122) d_M_takes_48 (by decide) ?_
  refine et_invS mS_M_within (As := [_, _, _]) rfl d_M_takes_50 lk_M_75 len_M_within (Nat.le_of_ble_eq_true rfl) (c_M_within (d := d) x 120 122) (Nat.le_refl _) (Nat.le_of_ble_eq_true rfl) (Nat.le_of_ble_eq_true rfl) (fun v h' n' hp => ?_) (fun x h' n' hp => by cases hp.1)
  obtain ⟨hv, rfl, rfl⟩ := hp
  cases hv
  by_cases e2 : 120 ≤ x ∧ x ≤ 122
  · rw [if_pos e2]
    have hr : et_pt x = 0 := by
      have c1 := et_le_i e2.1
      have c2 := et_le_i e2.2
      have a1 : (120 : Int32).toInt = 120 := rfl
      have a2 : (122 : Int32).toInt = 122 := rfl
      have h3 : x = 120 ∨ x = 121 ∨ x = 122 := by
        rcases (show x.toInt = 120 ∨ x.toInt = 121 ∨ x.toInt = 122 by omega) with z | z | z
        · exact Or.inl (Int32.toInt_inj.mp z)
        · exact Or.inr (Or.inl (Int32.toInt_inj.mp z))
        · exact Or.inr (Or.inr (Int32.toInt_inj.mp z))
      rcases h3 with rfl | rfl | rfl <;> decide
    rw [hr]
    refine et_if_eq (tgt := 60) d_M_takes_53 (by decide) (fun q => absurd q (by decide)) (fun _ => ?_)
    refine et_iconst (v := 0) d_M_takes_56 (by decide) ?_
    refine et_goto (tgt := 61) d_M_takes_57 (by decide) ?_
    exact et_iret d_M_takes_61 rfl (Nat.le_of_ble_eq_true rfl) (Nat.le_of_ble_eq_true rfl) ⟨rfl, rfl, rfl⟩
  rw [if_neg e2]
  have hr : et_pt x = -1 := by
    have n1 : ¬ x = 120 := fun z => e2 (by rw [z]; decide)
    have n2 : ¬ x = 121 := fun z => e2 (by rw [z]; decide)
    have n3 : ¬ x = 122 := fun z => e2 (by rw [z]; decide)
    simp [et_pt, e33, e42, e43, e45, e94, n1, n2, n3, e]
  rw [hr]
  refine et_if_eq (tgt := 60) d_M_takes_53 (by decide) (fun _ => ?_) (fun q => absurd (by decide) q)
  refine et_iconst (v := (-1)) d_M_takes_60 (by decide) ?_
  exact et_iret d_M_takes_61 rfl (Nat.le_of_ble_eq_true rfl) (Nat.le_of_ble_eq_true rfl) ⟨rfl, rfl, rfl⟩
set_option maxHeartbeats 4000000 in
set_option maxRecDepth 100000 in
theorem c_M_wipe {sc : et_X} {h : Nat → et_MC} {d n : Nat} {th le a_ wr en al se ru nd cs un rs : Int32} {dc ds : Int64} (h64 : h 64 = et_Mo th le a_ wr en al se ru nd cs un rs dc ds) : et_Cn sc Y_M_wipe d [.ref 64] h n 0 0 (fun r h' n' => r = .inl (some (.int le)) ∧ n' = n ∧ h' = va_up h 64 (et_Mo 0 0 a_ wr en al se ru nd cs un rs dc ds)) := by
  refine et_Cn.of 1 rfl rfl (by decide) mV_M_wipe.1 ?_
  refine et_aload_n (i := 0) d_M_wipe_0 rfl rfl ?_
  refine et_iconst (v := 0) d_M_wipe_1 (by decide) ?_
  refine et_putf (ci := 7) 0 d_M_wipe_2 h64 rfl in_M ty_M nm_M (by decide) fl_M_72 rfl rfl (fun _ => rfl) (fun _ => rfl) (Nat.le_of_ble_eq_true rfl) (fs' := [_, _, _, _, _, _, _, _, _, _, _, _, _, _, _, _, _, _, _, _, _, _, _, _, _, _, _, _, _, _, _, _, _]) rfl ?_
  refine et_aload_n (i := 0) d_M_wipe_5 rfl rfl ?_
  refine et_getf (ci := 7) 2 d_M_wipe_6 rfl rfl in_M (by decide) fl_M_79 rfl ?_
  refine et_istore_n (i := 1) (lv' := [_, _]) d_M_wipe_9 rfl (by decide) rfl rfl ?_
  refine et_aload_n (i := 0) d_M_wipe_10 rfl rfl ?_
  refine et_iconst (v := 0) d_M_wipe_11 (by decide) ?_
  refine et_putf (ci := 7) 2 d_M_wipe_12 rfl rfl in_M ty_M nm_M (by decide) fl_M_79 rfl rfl (fun _ => rfl) (fun _ => rfl) (Nat.le_of_ble_eq_true rfl) (fs' := [_, _, _, _, _, _, _, _, _, _, _, _, _, _, _, _, _, _, _, _, _, _, _, _, _, _, _, _, _, _, _, _, _]) rfl ?_
  refine et_iload_n (i := 1) d_M_wipe_15 rfl rfl ?_
  exact et_iret d_M_wipe_16 rfl (Nat.le_of_ble_eq_true rfl) (Nat.le_of_ble_eq_true rfl) ⟨rfl, rfl, bx_uu _ _ _ _⟩
set_option maxHeartbeats 4000000 in
set_option maxRecDepth 100000 in
theorem c_M_place {sc : et_X} {h : Nat → et_MC} {d n : Nat} {th le a_ wr en al se ru nd cs un rs : Int32} {dc ds : Int64} (h64 : h 64 = et_Mo th le a_ wr en al se ru nd cs un rs dc ds) : et_Cn sc Y_M_place d [.ref 64] h n 0 0 (fun r h' n' => r = .inl (some (.int wr)) ∧ n' = n ∧ h' = va_up h 64 (et_Mo 0 le a_ wr en al se ru nd cs un rs dc ds)) := by
  refine et_Cn.of 0 rfl rfl (by decide) mV_M_place.1 ?_
  refine et_aload_n (i := 0) d_M_place_0 rfl rfl ?_
  refine et_iconst (v := 0) d_M_place_1 (by decide) ?_
  refine et_putf (ci := 7) 0 d_M_place_2 h64 rfl in_M ty_M nm_M (by decide) fl_M_72 rfl rfl (fun _ => rfl) (fun _ => rfl) (Nat.le_of_ble_eq_true rfl) (fs' := [_, _, _, _, _, _, _, _, _, _, _, _, _, _, _, _, _, _, _, _, _, _, _, _, _, _, _, _, _, _, _, _, _]) rfl ?_
  refine et_aload_n (i := 0) d_M_place_5 rfl rfl ?_
  refine et_getf (ci := 7) 4 d_M_place_6 rfl rfl in_M (by decide) fl_M_13 rfl ?_
  exact et_iret d_M_place_9 rfl (Nat.le_of_ble_eq_true rfl) (Nat.le_of_ble_eq_true rfl) ⟨rfl, rfl, rfl⟩
set_option maxHeartbeats 4000000 in
set_option maxRecDepth 100000 in
theorem c_M_nodes {sc : et_X} {h : Nat → et_MC} {d n : Nat} {th le a_ wr en al se ru nd cs un rs : Int32} {dc ds : Int64} (h64 : h 64 = et_Mo th le a_ wr en al se ru nd cs un rs dc ds) : et_Cn sc Y_M_nodes d [.ref 64] h n 0 0 (fun r h' n' => r = .inl (some (.int nd)) ∧ n' = n ∧ h' = va_up h 64 (et_Mo 0 le a_ wr en al se ru nd cs un rs dc ds)) := by
  refine et_Cn.of 0 rfl rfl (by decide) mV_M_nodes.1 ?_
  refine et_aload_n (i := 0) d_M_nodes_0 rfl rfl ?_
  refine et_iconst (v := 0) d_M_nodes_1 (by decide) ?_
  refine et_putf (ci := 7) 0 d_M_nodes_2 h64 rfl in_M ty_M nm_M (by decide) fl_M_72 rfl rfl (fun _ => rfl) (fun _ => rfl) (Nat.le_of_ble_eq_true rfl) (fs' := [_, _, _, _, _, _, _, _, _, _, _, _, _, _, _, _, _, _, _, _, _, _, _, _, _, _, _, _, _, _, _, _, _]) rfl ?_
  refine et_aload_n (i := 0) d_M_nodes_5 rfl rfl ?_
  refine et_getf (ci := 7) 11 d_M_nodes_6 rfl rfl in_M (by decide) fl_M_119 rfl ?_
  exact et_iret d_M_nodes_9 rfl (Nat.le_of_ble_eq_true rfl) (Nat.le_of_ble_eq_true rfl) ⟨rfl, rfl, rfl⟩
set_option maxHeartbeats 4000000 in
set_option maxRecDepth 100000 in
theorem c_M_classes {sc : et_X} {h : Nat → et_MC} {d n : Nat} {th le a_ wr en al se ru nd cs un rs : Int32} {dc ds : Int64} (h64 : h 64 = et_Mo th le a_ wr en al se ru nd cs un rs dc ds) : et_Cn sc Y_M_classes d [.ref 64] h n 0 0 (fun r h' n' => r = .inl (some (.int cs)) ∧ n' = n ∧ h' = va_up h 64 (et_Mo 0 le a_ wr en al se ru nd cs un rs dc ds)) := by
  refine et_Cn.of 0 rfl rfl (by decide) mV_M_classes.1 ?_
  refine et_aload_n (i := 0) d_M_classes_0 rfl rfl ?_
  refine et_iconst (v := 0) d_M_classes_1 (by decide) ?_
  refine et_putf (ci := 7) 0 d_M_classes_2 h64 rfl in_M ty_M nm_M (by decide) fl_M_72 rfl rfl (fun _ => rfl) (fun _ => rfl) (Nat.le_of_ble_eq_true rfl) (fs' := [_, _, _, _, _, _, _, _, _, _, _, _, _, _, _, _, _, _, _, _, _, _, _, _, _, _, _, _, _, _, _, _, _]) rfl ?_
  refine et_aload_n (i := 0) d_M_classes_5 rfl rfl ?_
  refine et_getf (ci := 7) 12 d_M_classes_6 rfl rfl in_M (by decide) fl_M_126 rfl ?_
  exact et_iret d_M_classes_9 rfl (Nat.le_of_ble_eq_true rfl) (Nat.le_of_ble_eq_true rfl) ⟨rfl, rfl, rfl⟩
set_option maxHeartbeats 4000000 in
set_option maxRecDepth 100000 in
theorem c_M_character {sc : et_X} {h : Nat → et_MC} {d n : Nat} {th a_ wr en al se ru nd cs un rs : Int32} {dc ds : Int64} {sz : Nat} {f : Nat → Int32} (i : Int32) (hsz : sz ≤ 60) (h64 : h 64 = et_Mo th (nI sz) a_ wr en al se ru nd cs un rs dc ds) (h65 : h 65 = .inl (0, 60, .inl f)) : et_Cn sc Y_M_character (d + 1) [.ref 64, .int i] h n 0 0 (fun r h' n' => r = .inl (some (.int (if i < 0 ∨ nI sz ≤ i then -1 else f i.toNatClampNeg))) ∧ n' = n ∧ h' = va_up h 64 (et_Mo 0 (nI sz) a_ wr en al se ru nd cs un rs dc ds)) := by
  refine et_Cn.of 0 rfl rfl (by decide) mV_M_character.1 ?_
  refine et_aload_n (i := 0) d_M_character_0 rfl rfl ?_
  refine et_iconst (v := 0) d_M_character_1 (by decide) ?_
  refine et_putf (ci := 7) 0 d_M_character_2 h64 rfl in_M ty_M nm_M (by decide) fl_M_72 rfl rfl (fun _ => rfl) (fun _ => rfl) (Nat.le_of_ble_eq_true rfl) (fs' := [_, _, _, _, _, _, _, _, _, _, _, _, _, _, _, _, _, _, _, _, _, _, _, _, _, _, _, _, _, _, _, _, _]) rfl ?_
  refine et_iload_n (i := 1) d_M_character_5 rfl rfl ?_
  refine et_iconst (v := 0) d_M_character_6 (by decide) ?_
  refine et_aload_n (i := 0) d_M_character_7 rfl rfl ?_
  refine et_getf (ci := 7) 2 d_M_character_8 rfl rfl in_M (by decide) fl_M_79 rfl ?_
  refine et_iconst (v := 1) d_M_character_11 (by decide) ?_
  refine et_isub d_M_character_12 ?_
  refine et_invS mS_M_within (As := [_, _, _]) rfl d_M_character_13 lk_M_75 len_M_within (Nat.le_of_ble_eq_true rfl) (c_M_within (d := d) i 0 (nI sz - 1)) (Nat.le_refl _) (Nat.le_of_ble_eq_true rfl) (Nat.le_of_ble_eq_true rfl) (fun v h' n' hp => ?_) (fun x h' n' hp => by cases hp.1)
  obtain ⟨hv, rfl, rfl⟩ := hp
  cases hv
  have es : (nI sz - 1).toInt = (sz : Int) - 1 := pk_sub_toInt (a := sz) (b := 1) (by omega) (by decide)
  by_cases e : 0 ≤ i ∧ i ≤ nI sz - 1
  · rw [if_pos e]
    have c1 := et_le_i e.1
    have c2 := et_le_i e.2
    rw [es] at c2
    have a0 : (0 : Int32).toInt = 0 := rfl
    have hin : vp_in i 60 := vp_in_iff.mpr ⟨by omega, by omega⟩
    have hno : ¬ (i < 0 ∨ nI sz ≤ i) := fun z => by
      rcases z with z | z
      · have := et_lt_i z; omega
      · have := et_le_i z; rw [nI_toInt (by omega)] at this; omega
    rw [if_neg hno]
    refine et_if_eq (tgt := 28) d_M_character_16 (by decide) (fun q => absurd q (by decide)) (fun _ => ?_)
    refine et_aload_n (i := 0) d_M_character_19 rfl rfl ?_
    refine et_getf (ci := 7) 1 d_M_character_20 rfl rfl in_M (by decide) fl_M_7 rfl ?_
    refine et_iload_n (i := 1) d_M_character_23 rfl rfl ?_
    refine et_iald d_M_character_24 h65 hin ?_
    refine et_goto (tgt := 29) d_M_character_25 (by decide) ?_
    exact et_iret d_M_character_29 rfl (Nat.le_of_ble_eq_true rfl) (Nat.le_of_ble_eq_true rfl) ⟨rfl, rfl, rfl⟩
  · rw [if_neg e]
    have hyes : i < 0 ∨ nI sz ≤ i := by
      by_cases z : i < 0
      · exact Or.inl z
      · refine Or.inr (Int32.le_iff_toInt_le.mpr ?_)
        rw [nI_toInt (by omega)]
        have c1 := et_nlt_i z
        have c2 := et_nle_i (fun y => e ⟨Int32.not_lt.mp z, y⟩)
        rw [es] at c2
        omega
    rw [if_pos hyes]
    refine et_if_eq (tgt := 28) d_M_character_16 (by decide) (fun _ => ?_) (fun q => absurd (by decide) q)
    refine et_iconst (v := (-1)) d_M_character_28 (by decide) ?_
    exact et_iret d_M_character_29 rfl (Nat.le_of_ble_eq_true rfl) (Nat.le_of_ble_eq_true rfl) ⟨rfl, rfl, rfl⟩
