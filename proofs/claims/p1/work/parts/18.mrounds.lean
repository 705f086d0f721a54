theorem et_upself {α : Type} {h : Nat → α} {k : Nat} {c : α} (e : h k = c) : va_up h k c = h := by
  funext j
  by_cases ej : j = k
  · simp [va_up, ej, e]
  · simp [va_up, ej]
set_option maxHeartbeats 4000000 in
set_option maxRecDepth 100000 in
theorem c0_M_fillTables {sc : et_X} {h : Nat → et_MC} {d n : Nat} {th le a_ wr en al se ru cs un rs : Int32} {dc ds : Int64} (h64 : h 64 = et_Mo th le a_ wr en al se ru 0 cs un rs dc ds) {f1 f2 f3 : Nat → Int32} (h76 : h 76 = .inl (0, 128, .inl f1)) (h77 : h 77 = .inl (0, 80, .inl f2)) (h78 : h 78 = .inl (0, 4800, .inl f3)) : et_Cn sc Y_M_fillTables d [.ref 64] h n 0 0 (fun r h' n' => r = .inl none ∧ n' = n ∧ ∀ k, k ≠ 76 → k ≠ 77 → k ≠ 78 → h' k = h k) := by
  refine et_Cn.of 2 rfl rfl (by decide) mV_M_fillTables.1 ?_
  have k4 : ∀ (g1 g2 g3 : Nat → Int32) (z : Int32), et_M sc Y_M_fillTables d 0 0 (fun r h' n' => r = .inl none ∧ n' = n ∧ ∀ k, k ≠ 76 → k ≠ 77 → k ≠ 78 → h' k = h k) 65 [some (.ref 64), some (.int z), none] [] (va_up (va_up (va_up h 76 (.inl (0, 128, .inl g1))) 77 (.inl (0, 80, .inl g2))) 78 (.inl (0, 4800, .inl g3))) n 0 0 := by
    intro g1 g2 g3 z
    refine et_iconst (v := 0) d_M_fillTables_65 (by decide) ?_
    refine et_istore_n (i := 1) (lv' := [_, _, _]) d_M_fillTables_66 rfl (by decide) rfl rfl ?_
    refine et_iload_n (i := 1) d_M_fillTables_67 rfl rfl ?_
    refine et_aload_n (i := 0) d_M_fillTables_68 rfl rfl ?_
    refine et_getf (ci := 7) 11 d_M_fillTables_69 h64 rfl in_M (by decide) fl_M_119 rfl ?_
    refine et_icmp_ge (tgt := 182) d_M_fillTables_72 (by decide) (fun _ => ?_) (fun q => absurd (by decide) q)
    exact et_vret d_M_fillTables_182 rfl (Nat.le_of_ble_eq_true rfl) (Nat.le_of_ble_eq_true rfl) ⟨rfl, rfl, fun k e1 e2 e3 => by simp [va_up, e1, e2, e3]⟩
  have k3 : ∀ (g1 g2 : Nat → Int32) (t i : Nat) (g3 : Nat → Int32), i + t = 4800 → et_M sc Y_M_fillTables d 0 0 (fun r h' n' => r = .inl none ∧ n' = n ∧ ∀ k, k ≠ 76 → k ≠ 77 → k ≠ 78 → h' k = h k) 45 [some (.ref 64), some (.int (nI i)), none] [] (va_up (va_up (va_up h 76 (.inl (0, 128, .inl g1))) 77 (.inl (0, 80, .inl g2))) 78 (.inl (0, 4800, .inl g3))) n 0 0 := by
    intro g1 g2 t
    induction t with
    | zero =>
      intro i g3 hi
      obtain rfl : i = 4800 := by omega
      refine et_iload_n (i := 1) d_M_fillTables_45 rfl rfl ?_
      refine et_sipush (v := 4800) d_M_fillTables_46 (by decide) ?_
      refine et_icmp_ge (tgt := 65) d_M_fillTables_49 (by decide) (fun _ => ?_) (fun q => absurd (by decide) q)
      exact k4 g1 g2 g3 _
    | succ t ih =>
      intro i g3 hi
      refine et_iload_n (i := 1) d_M_fillTables_45 rfl rfl ?_
      refine et_sipush (v := 4800) d_M_fillTables_46 (by decide) ?_
      refine et_icmp_ge (tgt := 65) d_M_fillTables_49 (by decide) (fun q => absurd q (show ¬ (4800 : Int32) ≤ nI i from nI_ge (a := i) (b := 4800) (by omega) (by decide))) (fun _ => ?_)
      refine et_aload_n (i := 0) d_M_fillTables_52 rfl rfl ?_
      refine et_getf (ci := 7) 25 d_M_fillTables_53 h64 rfl in_M (by decide) fl_M_53 rfl ?_
      refine et_iload_n (i := 1) d_M_fillTables_56 rfl rfl ?_
      refine et_iconst (v := (-1)) d_M_fillTables_57 (by decide) ?_
      refine et_iast d_M_fillTables_58 rfl (vp_in_nI (show i < 4800 by omega) (by decide)) ?_
      refine et_iinc (lv' := [_, _, _]) d_M_fillTables_59 rfl (v := nI (i + 1)) (nI_1 i) (by decide) rfl rfl ?_
      refine et_goto (tgt := 45) d_M_fillTables_62 (by decide) ?_
      rw [bx_uu]
      exact ih (i + 1) _ (by omega)
  have k2 : ∀ (g1 : Nat → Int32) (t i : Nat) (g2 : Nat → Int32), i + t = 80 → et_M sc Y_M_fillTables d 0 0 (fun r h' n' => r = .inl none ∧ n' = n ∧ ∀ k, k ≠ 76 → k ≠ 77 → k ≠ 78 → h' k = h k) 24 [some (.ref 64), some (.int (nI i)), none] [] (va_up (va_up h 76 (.inl (0, 128, .inl g1))) 77 (.inl (0, 80, .inl g2))) n 0 0 := by
    intro g1 t
    induction t with
    | zero =>
      intro i g2 hi
      obtain rfl : i = 80 := by omega
      refine et_iload_n (i := 1) d_M_fillTables_24 rfl rfl ?_
      refine et_bipush (v := 80) d_M_fillTables_25 (by decide) ?_
      refine et_icmp_ge (tgt := 43) d_M_fillTables_27 (by decide) (fun _ => ?_) (fun q => absurd (by decide) q)
      refine et_iconst (v := 0) d_M_fillTables_43 (by decide) ?_
      refine et_istore_n (i := 1) (lv' := [_, _, _]) d_M_fillTables_44 rfl (by decide) rfl rfl ?_
      have z := k3 g1 g2 4800 0 f3 rfl
      rw [et_upself (show (va_up (va_up h 76 (.inl (0, 128, .inl g1))) 77 (.inl (0, 80, .inl g2))) 78 = .inl (0, 4800, .inl f3) from h78)] at z
      exact z
    | succ t ih =>
      intro i g2 hi
      refine et_iload_n (i := 1) d_M_fillTables_24 rfl rfl ?_
      refine et_bipush (v := 80) d_M_fillTables_25 (by decide) ?_
      refine et_icmp_ge (tgt := 43) d_M_fillTables_27 (by decide) (fun q => absurd q (show ¬ (80 : Int32) ≤ nI i from nI_ge (a := i) (b := 80) (by omega) (by decide))) (fun _ => ?_)
      refine et_aload_n (i := 0) d_M_fillTables_30 rfl rfl ?_
      refine et_getf (ci := 7) 24 d_M_fillTables_31 h64 rfl in_M (by decide) fl_M_50 rfl ?_
      refine et_iload_n (i := 1) d_M_fillTables_34 rfl rfl ?_
      refine et_iconst (v := (-1)) d_M_fillTables_35 (by decide) ?_
      refine et_iast d_M_fillTables_36 rfl (vp_in_nI (show i < 80 by omega) (by decide)) ?_
      refine et_iinc (lv' := [_, _, _]) d_M_fillTables_37 rfl (v := nI (i + 1)) (nI_1 i) (by decide) rfl rfl ?_
      refine et_goto (tgt := 24) d_M_fillTables_40 (by decide) ?_
      rw [bx_uu]
      exact ih (i + 1) _ (by omega)
  have k1 : ∀  (t i : Nat) (g1 : Nat → Int32), i + t = 128 → et_M sc Y_M_fillTables d 0 0 (fun r h' n' => r = .inl none ∧ n' = n ∧ ∀ k, k ≠ 76 → k ≠ 77 → k ≠ 78 → h' k = h k) 2 [some (.ref 64), some (.int (nI i)), none] [] (va_up h 76 (.inl (0, 128, .inl g1))) n 0 0 := by
    intro  t
    induction t with
    | zero =>
      intro i g1 hi
      obtain rfl : i = 128 := by omega
      refine et_iload_n (i := 1) d_M_fillTables_2 rfl rfl ?_
      refine et_sipush (v := 128) d_M_fillTables_3 (by decide) ?_
      refine et_icmp_ge (tgt := 22) d_M_fillTables_6 (by decide) (fun _ => ?_) (fun q => absurd (by decide) q)
      refine et_iconst (v := 0) d_M_fillTables_22 (by decide) ?_
      refine et_istore_n (i := 1) (lv' := [_, _, _]) d_M_fillTables_23 rfl (by decide) rfl rfl ?_
      have z := k2 g1 80 0 f2 rfl
      rw [et_upself (show (va_up h 76 (.inl (0, 128, .inl g1))) 77 = .inl (0, 80, .inl f2) from h77)] at z
      exact z
    | succ t ih =>
      intro i g1 hi
      refine et_iload_n (i := 1) d_M_fillTables_2 rfl rfl ?_
      refine et_sipush (v := 128) d_M_fillTables_3 (by decide) ?_
      refine et_icmp_ge (tgt := 22) d_M_fillTables_6 (by decide) (fun q => absurd q (show ¬ (128 : Int32) ≤ nI i from nI_ge (a := i) (b := 128) (by omega) (by decide))) (fun _ => ?_)
      refine et_aload_n (i := 0) d_M_fillTables_9 rfl rfl ?_
      refine et_getf (ci := 7) 23 d_M_fillTables_10 h64 rfl in_M (by decide) fl_M_47 rfl ?_
      refine et_iload_n (i := 1) d_M_fillTables_13 rfl rfl ?_
      refine et_iconst (v := (-1)) d_M_fillTables_14 (by decide) ?_
      refine et_iast d_M_fillTables_15 rfl (vp_in_nI (show i < 128 by omega) (by decide)) ?_
      refine et_iinc (lv' := [_, _, _]) d_M_fillTables_16 rfl (v := nI (i + 1)) (nI_1 i) (by decide) rfl rfl ?_
      refine et_goto (tgt := 2) d_M_fillTables_19 (by decide) ?_
      rw [bx_uu]
      exact ih (i + 1) _ (by omega)
  refine et_iconst (v := 0) d_M_fillTables_0 (by decide) ?_
  refine et_istore_n (i := 1) (lv' := [_, _, _]) d_M_fillTables_1 rfl (by decide) rfl rfl ?_
  have z := k1 128 0 f1 rfl
  rw [et_upself h76] at z
  exact z
set_option maxHeartbeats 4000000 in
set_option maxRecDepth 100000 in
theorem c0_M_renumber {sc : et_X} {h : Nat → et_MC} {d n : Nat} {th le a_ wr en al se ru un rs : Int32} {dc ds : Int64} (h64 : h 64 = et_Mo th le a_ wr en al se ru 0 0 un rs dc ds) : et_Cn sc Y_M_renumber d [.ref 64] h n 0 0 (fun r h' n' => r = .inl none ∧ n' = n ∧ h' = va_up h 64 (et_Mo th le a_ wr en al se ru 0 0 un rs dc ds)) := by
  refine et_Cn.of 3 rfl rfl (by decide) mV_M_renumber.1 ?_
  refine et_iconst (v := 0) d_M_renumber_0 (by decide) ?_
  refine et_istore_n (i := 1) (lv' := [_, _, _, _]) d_M_renumber_1 rfl (by decide) rfl rfl ?_
  refine et_iload_n (i := 1) d_M_renumber_2 rfl rfl ?_
  refine et_aload_n (i := 0) d_M_renumber_3 rfl rfl ?_
  refine et_getf (ci := 7) 12 d_M_renumber_4 h64 rfl in_M (by decide) fl_M_126 rfl ?_
  refine et_icmp_ge (tgt := 23) d_M_renumber_7 (by decide) (fun _ => ?_) (fun q => absurd (by decide) q)
  refine et_iconst (v := 0) d_M_renumber_23 (by decide) ?_
  refine et_istore_n (i := 1) (lv' := [_, _, _, _]) d_M_renumber_24 rfl (by decide) rfl rfl ?_
  refine et_iconst (v := 0) d_M_renumber_25 (by decide) ?_
  refine et_istore_n (i := 2) (lv' := [_, _, _, _]) d_M_renumber_26 rfl (by decide) rfl rfl ?_
  refine et_iload_n (i := 2) d_M_renumber_27 rfl rfl ?_
  refine et_aload_n (i := 0) d_M_renumber_28 rfl rfl ?_
  refine et_getf (ci := 7) 11 d_M_renumber_29 h64 rfl in_M (by decide) fl_M_119 rfl ?_
  refine et_icmp_ge (tgt := 72) d_M_renumber_32 (by decide) (fun _ => ?_) (fun q => absurd (by decide) q)
  refine et_iconst (v := 0) d_M_renumber_72 (by decide) ?_
  refine et_istore_n (i := 2) (lv' := [_, _, _, _]) d_M_renumber_73 rfl (by decide) rfl rfl ?_
  refine et_iload_n (i := 2) d_M_renumber_74 rfl rfl ?_
  refine et_aload_n (i := 0) d_M_renumber_75 rfl rfl ?_
  refine et_getf (ci := 7) 11 d_M_renumber_76 h64 rfl in_M (by decide) fl_M_119 rfl ?_
  refine et_icmp_ge (tgt := 180) d_M_renumber_79 (by decide) (fun _ => ?_) (fun q => absurd (by decide) q)
  refine et_aload_n (i := 0) d_M_renumber_180 rfl rfl ?_
  refine et_iload_n (i := 1) d_M_renumber_181 rfl rfl ?_
  refine et_putf (ci := 7) 12 d_M_renumber_182 h64 rfl in_M ty_M nm_M (by decide) fl_M_126 rfl rfl (fun _ => rfl) (fun _ => rfl) (Nat.le_of_ble_eq_true rfl) (fs' := [_, _, _, _, _, _, _, _, _, _, _, _, _, _, _, _, _, _, _, _, _, _, _, _, _, _, _, _, _, _, _, _, _]) rfl ?_
  refine et_iconst (v := 0) d_M_renumber_185 (by decide) ?_
  refine et_istore_n (i := 2) (lv' := [_, _, _, _]) d_M_renumber_186 rfl (by decide) rfl rfl ?_
  refine et_iload_n (i := 2) d_M_renumber_187 rfl rfl ?_
  refine et_iload_n (i := 1) d_M_renumber_188 rfl rfl ?_
  refine et_icmp_ge (tgt := 205) d_M_renumber_189 (by decide) (fun _ => ?_) (fun q => absurd (by decide) q)
  exact et_vret d_M_renumber_205 rfl (Nat.le_of_ble_eq_true rfl) (Nat.le_of_ble_eq_true rfl) ⟨rfl, rfl, rfl⟩
set_option maxHeartbeats 4000000 in
set_option maxRecDepth 100000 in
theorem c0_M_close {sc : et_X} {h : Nat → et_MC} {d n : Nat} {th le a_ wr en al se ru un rs : Int32} {dc ds : Int64} (h64 : h 64 = et_Mo th le a_ wr en al se ru 0 0 un rs dc ds) : et_Cn sc Y_M_close (d + 1) [.ref 64] h n 0 0 (fun r h' n' => r = .inl none ∧ n' = n ∧ h' = va_up h 64 (et_Mo th le a_ wr en al se ru 0 0 un rs dc ds)) := by
  refine et_Cn.of 3 rfl rfl (by decide) mV_M_close.1 ?_
  refine et_iconst (v := 1) d_M_close_0 (by decide) ?_
  refine et_istore_n (i := 1) (lv' := [_, _, _, _]) d_M_close_1 rfl (by decide) rfl rfl ?_
  refine et_iload_n (i := 1) d_M_close_2 rfl rfl ?_
  refine et_if_eq (tgt := 145) d_M_close_3 (by decide) (fun q => absurd q (by decide)) (fun _ => ?_)
  refine et_iconst (v := 0) d_M_close_6 (by decide) ?_
  refine et_istore_n (i := 1) (lv' := [_, _, _, _]) d_M_close_7 rfl (by decide) rfl rfl ?_
  refine et_iconst (v := 0) d_M_close_8 (by decide) ?_
  refine et_istore_n (i := 2) (lv' := [_, _, _, _]) d_M_close_9 rfl (by decide) rfl rfl ?_
  refine et_iload_n (i := 2) d_M_close_10 rfl rfl ?_
  refine et_aload_n (i := 0) d_M_close_11 rfl rfl ?_
  refine et_getf (ci := 7) 11 d_M_close_12 h64 rfl in_M (by decide) fl_M_119 rfl ?_
  refine et_icmp_ge (tgt := 142) d_M_close_15 (by decide) (fun _ => ?_) (fun q => absurd (by decide) q)
  refine et_goto (tgt := 2) d_M_close_142 (by decide) ?_
  refine et_iload_n (i := 1) d_M_close_2 rfl rfl ?_
  refine et_if_eq (tgt := 145) d_M_close_3 (by decide) (fun _ => ?_) (fun q => absurd (by decide) q)
  refine et_aload_n (i := 0) d_M_close_145 rfl rfl ?_
  refine et_invV mV_M_renumber (As := []) rfl d_M_close_146 lk_M_154 len_M_renumber h64 rfl (Nat.le_of_ble_eq_true rfl) (c0_M_renumber (d := d) h64) (Nat.le_refl _) (Nat.le_of_ble_eq_true rfl) (Nat.le_of_ble_eq_true rfl) (fun v h' n' hp => ?_) (fun x h' n' hp => by cases hp.1)
  obtain ⟨hv, rfl, rfl⟩ := hp
  cases hv
  exact et_vret d_M_close_149 rfl (Nat.le_of_ble_eq_true rfl) (Nat.le_of_ble_eq_true rfl) ⟨rfl, rfl, rfl⟩
set_option maxHeartbeats 4000000 in
set_option maxRecDepth 100000 in
theorem c0_M_oneRound {sc : et_X} {h : Nat → et_MC} {d n : Nat} {th le a_ wr en al se un rs : Int32} {dc ds : Int64} (h64 : h 64 = et_Mo th le a_ wr en al se 0 0 0 un rs dc ds) {f1 f2 f3 : Nat → Int32} (h76 : h 76 = .inl (0, 128, .inl f1)) (h77 : h 77 = .inl (0, 80, .inl f2)) (h78 : h 78 = .inl (0, 4800, .inl f3)) : et_Cn sc Y_M_oneRound (d + 2) [.ref 64] h n 0 0 (fun r h' n' => r = .inl (some (.int 0)) ∧ n' = n ∧ h' 64 = et_Mo th le a_ wr en al se 0 0 0 0 rs dc ds ∧ ∀ k, k ≠ 64 → k ≠ 76 → k ≠ 77 → k ≠ 78 → h' k = h k) := by
  refine et_Cn.of 3 rfl rfl (by decide) mV_M_oneRound.1 ?_
  refine et_aload_n (i := 0) d_M_oneRound_0 rfl rfl ?_
  refine et_getf (ci := 7) 11 d_M_oneRound_1 h64 rfl in_M (by decide) fl_M_119 rfl ?_
  refine et_istore_n (i := 1) (lv' := [_, _, _, _]) d_M_oneRound_4 rfl (by decide) rfl rfl ?_
  refine et_aload_n (i := 0) d_M_oneRound_5 rfl rfl ?_
  refine et_getf (ci := 7) 12 d_M_oneRound_6 h64 rfl in_M (by decide) fl_M_126 rfl ?_
  refine et_istore_n (i := 2) (lv' := [_, _, _, _]) d_M_oneRound_9 rfl (by decide) rfl rfl ?_
  refine et_aload_n (i := 0) d_M_oneRound_10 rfl rfl ?_
  refine et_iconst (v := 0) d_M_oneRound_11 (by decide) ?_
  refine et_putf (ci := 7) 19 d_M_oneRound_12 h64 rfl in_M ty_M nm_M (by decide) fl_M_139 rfl rfl (fun _ => rfl) (fun _ => rfl) (Nat.le_of_ble_eq_true rfl) (fs' := [_, _, _, _, _, _, _, _, _, _, _, _, _, _, _, _, _, _, _, _, _, _, _, _, _, _, _, _, _, _, _, _, _]) rfl ?_
  refine et_aload_n (i := 0) d_M_oneRound_15 rfl rfl ?_
  refine et_invV mV_M_fillTables (As := []) rfl d_M_oneRound_16 lk_M_186 len_M_fillTables rfl rfl (Nat.le_of_ble_eq_true rfl) (c0_M_fillTables (d := d) rfl h76 h77 h78) (by omega) (Nat.le_of_ble_eq_true rfl) (Nat.le_of_ble_eq_true rfl) (fun v ha n' hp => ?_) (fun x h' n' hp => by cases hp.1)
  obtain ⟨hv, rfl, fr⟩ := hp
  cases hv
  have g64 := fr 64 (by decide) (by decide) (by decide)
  replace g64 : ha 64 = et_Mo th le a_ wr en al se 0 0 0 0 rs dc ds := g64
  refine et_iconst (v := 0) d_M_oneRound_19 (by decide) ?_
  refine et_istore_n (i := 3) (lv' := [_, _, _, _]) d_M_oneRound_20 rfl (by decide) rfl rfl ?_
  refine et_iload_n (i := 3) d_M_oneRound_21 rfl rfl ?_
  refine et_aload_n (i := 0) d_M_oneRound_22 rfl rfl ?_
  refine et_getf (ci := 7) 8 d_M_oneRound_23 g64 rfl in_M (by decide) fl_M_113 rfl ?_
  refine et_icmp_ge (tgt := 41) d_M_oneRound_26 (by decide) (fun _ => ?_) (fun q => absurd (by decide) q)
  refine et_aload_n (i := 0) d_M_oneRound_41 rfl rfl ?_
  refine et_getf (ci := 7) 11 d_M_oneRound_42 g64 rfl in_M (by decide) fl_M_119 rfl ?_
  refine et_bipush (v := 40) d_M_oneRound_45 (by decide) ?_
  refine et_icmp_le (tgt := 59) d_M_oneRound_47 (by decide) (fun _ => ?_) (fun q => absurd (by decide) q)
  refine et_aload_n (i := 0) d_M_oneRound_59 rfl rfl ?_
  refine et_getf (ci := 7) 11 d_M_oneRound_60 g64 rfl in_M (by decide) fl_M_119 rfl ?_
  refine et_iload_n (i := 1) d_M_oneRound_63 rfl rfl ?_
  refine et_icmp_le (tgt := 71) d_M_oneRound_64 (by decide) (fun _ => ?_) (fun q => absurd (by decide) q)
  refine et_iconst (v := 0) d_M_oneRound_71 (by decide) ?_
  refine et_istore_n (i := 3) (lv' := [_, _, _, _]) d_M_oneRound_72 rfl (by decide) rfl rfl ?_
  refine et_aload_n (i := 0) d_M_oneRound_73 rfl rfl ?_
  refine et_invV mV_M_close (As := []) rfl d_M_oneRound_74 lk_M_166 len_M_close g64 rfl (Nat.le_of_ble_eq_true rfl) (c0_M_close (d := d) g64) (Nat.le_refl _) (Nat.le_of_ble_eq_true rfl) (Nat.le_of_ble_eq_true rfl) (fun v h' n' hp => ?_) (fun x h' n' hp => by cases hp.1)
  obtain ⟨hv, rfl, rfl⟩ := hp
  cases hv
  refine et_iload_n (i := 3) d_M_oneRound_77 rfl rfl ?_
  refine et_if_ne (tgt := 88) d_M_oneRound_78 (by decide) (fun q => absurd (by decide) q) (fun _ => ?_)
  refine et_aload_n (i := 0) d_M_oneRound_81 rfl rfl ?_
  refine et_getf (ci := 7) 19 d_M_oneRound_82 rfl rfl in_M (by decide) fl_M_139 rfl ?_
  refine et_if_eq (tgt := 92) d_M_oneRound_85 (by decide) (fun _ => ?_) (fun q => absurd (by decide) q)
  refine et_iconst (v := 0) d_M_oneRound_92 (by decide) ?_
  exact et_iret d_M_oneRound_93 rfl (Nat.le_of_ble_eq_true rfl) (Nat.le_of_ble_eq_true rfl) ⟨rfl, rfl, rfl, fun k e1 e2 e3 e4 => by simp [va_up, e1, fr k e2 e3 e4]⟩
set_option maxHeartbeats 4000000 in
set_option maxRecDepth 100000 in
theorem c0_M_rounds {sc : et_X} {h : Nat → et_MC} {d n : Nat} {th le a_ wr en al se un rs : Int32} {dc ds : Int64} (x : Int32) (h64 : h 64 = et_Mo th le a_ wr en al se 0 0 0 un rs dc ds) {f1 f2 f3 : Nat → Int32} (h76 : h 76 = .inl (0, 128, .inl f1)) (h77 : h 77 = .inl (0, 80, .inl f2)) (h78 : h 78 = .inl (0, 4800, .inl f3)) : et_Cn sc Y_M_rounds (d + 3) [.ref 64, .int x] h n 0 0 (fun r h' n' => r = .inl (some (.int 0)) ∧ n' = n ∧ (∃ fs : List Value, h' 64 = .inr (7, .int (if 0 ≤ x ∧ x ≤ 20 then 0 else 1) :: fs)) ∧ ∀ k, k ≠ 64 → k ≠ 76 → k ≠ 77 → k ≠ 78 → h' k = h k) := by
  refine et_Cn.of 2 rfl rfl (by decide) mV_M_rounds.1 ?_
  refine et_aload_n (i := 0) d_M_rounds_0 rfl rfl ?_
  refine et_iload_n (i := 1) d_M_rounds_1 rfl rfl ?_
  refine et_iconst (v := 0) d_M_rounds_2 (by decide) ?_
  refine et_bipush (v := 20) d_M_rounds_3 (by decide) ?_
  refine et_invS mS_M_within (As := [_, _, _]) rfl d_M_rounds_5 lk_M_75 len_M_within (Nat.le_of_ble_eq_true rfl) (c_M_within (d := d) x 0 20) (by omega) (Nat.le_of_ble_eq_true rfl) (Nat.le_of_ble_eq_true rfl) (fun v h' n' hp => ?_) (fun x h' n' hp => by cases hp.1)
  obtain ⟨hv, rfl, rfl⟩ := hp
  cases hv
  by_cases e : 0 ≤ x ∧ x ≤ 20
  · rw [if_pos e, if_pos e]
    refine et_if_eq (tgt := 15) d_M_rounds_8 (by decide) (fun q => absurd q (by decide)) (fun _ => ?_)
    refine et_iconst (v := 0) d_M_rounds_11 (by decide) ?_
    refine et_goto (tgt := 16) d_M_rounds_12 (by decide) ?_
    refine et_putf (ci := 7) 0 d_M_rounds_16 h64 rfl in_M ty_M nm_M (by decide) fl_M_72 rfl rfl (fun _ => rfl) (fun _ => rfl) (Nat.le_of_ble_eq_true rfl) (fs' := [_, _, _, _, _, _, _, _, _, _, _, _, _, _, _, _, _, _, _, _, _, _, _, _, _, _, _, _, _, _, _, _, _]) rfl ?_
    refine et_aload_n (i := 0) d_M_rounds_19 rfl rfl ?_
    refine et_getf (ci := 7) 0 d_M_rounds_20 rfl rfl in_M (by decide) fl_M_72 rfl ?_
    refine et_if_le (tgt := 28) d_M_rounds_23 (by decide) (fun _ => ?_) (fun q => absurd (by decide) q)
    refine et_iconst (v := 0) d_M_rounds_28 (by decide) ?_
    refine et_istore_n (i := 2) (lv' := [_, _, _, _]) d_M_rounds_29 rfl (by decide) rfl rfl ?_
    refine et_iload_n (i := 2) d_M_rounds_30 rfl rfl ?_
    refine et_iload_n (i := 1) d_M_rounds_31 rfl rfl ?_
    refine et_icmp_ge (tgt := 64) d_M_rounds_32 (by decide) (fun q => ?_) (fun q => ?_)
    · refine et_iload_n (i := 2) d_M_rounds_64 rfl rfl ?_
      exact et_iret d_M_rounds_65 rfl (Nat.le_of_ble_eq_true rfl) (Nat.le_of_ble_eq_true rfl) ⟨rfl, rfl, ⟨_, rfl⟩, fun k e1 _ _ _ => by simp [va_up, e1]⟩
    refine et_aload_n (i := 0) d_M_rounds_35 rfl rfl ?_
    refine et_invV mV_M_oneRound (As := []) rfl d_M_rounds_36 lk_M_192 len_M_oneRound rfl rfl (Nat.le_of_ble_eq_true rfl) (c0_M_oneRound (d := d) rfl h76 h77 h78) (Nat.le_refl _) (Nat.le_of_ble_eq_true rfl) (Nat.le_of_ble_eq_true rfl) (fun v ha n' hp => ?_) (fun x h' n' hp => by cases hp.1)
    obtain ⟨hv, rfl, g64, fr⟩ := hp
    cases hv
    refine et_istore_n (i := 3) (lv' := [_, _, _, _]) d_M_rounds_39 rfl (by decide) rfl rfl ?_
    refine et_iload_n (i := 3) d_M_rounds_40 rfl rfl ?_
    refine et_iconst (v := 1) d_M_rounds_41 (by decide) ?_
    refine et_icmp_eq (tgt := 58) d_M_rounds_42 (by decide) (fun q => absurd q (by decide)) (fun _ => ?_)
    refine et_iload_n (i := 3) d_M_rounds_45 rfl rfl ?_
    refine et_bipush (v := (-2)) d_M_rounds_46 (by decide) ?_
    refine et_icmp_ne (tgt := 56) d_M_rounds_48 (by decide) (fun _ => ?_) (fun q => absurd q (by decide))
    refine et_iload_n (i := 2) d_M_rounds_56 rfl rfl ?_
    exact et_iret d_M_rounds_57 rfl (Nat.le_of_ble_eq_true rfl) (Nat.le_of_ble_eq_true rfl) ⟨rfl, rfl, ⟨_, g64⟩, fun k e1 e2 e3 e4 => (fr k e1 e2 e3 e4).trans (by simp [va_up, e1])⟩
  · rw [if_neg e, if_neg e]
    refine et_if_eq (tgt := 15) d_M_rounds_8 (by decide) (fun _ => ?_) (fun q => absurd (by decide) q)
    refine et_iconst (v := 1) d_M_rounds_15 (by decide) ?_
    refine et_putf (ci := 7) 0 d_M_rounds_16 h64 rfl in_M ty_M nm_M (by decide) fl_M_72 rfl rfl (fun _ => rfl) (fun _ => rfl) (Nat.le_of_ble_eq_true rfl) (fs' := [_, _, _, _, _, _, _, _, _, _, _, _, _, _, _, _, _, _, _, _, _, _, _, _, _, _, _, _, _, _, _, _, _]) rfl ?_
    refine et_aload_n (i := 0) d_M_rounds_19 rfl rfl ?_
    refine et_getf (ci := 7) 0 d_M_rounds_20 rfl rfl in_M (by decide) fl_M_72 rfl ?_
    refine et_if_le (tgt := 28) d_M_rounds_23 (by decide) (fun q => absurd q (by decide)) (fun _ => ?_)
    refine et_iconst (v := 0) d_M_rounds_26 (by decide) ?_
    exact et_iret d_M_rounds_27 rfl (Nat.le_of_ble_eq_true rfl) (Nat.le_of_ble_eq_true rfl) ⟨rfl, rfl, ⟨_, rfl⟩, fun k e1 _ _ _ => by simp [va_up, e1]⟩
