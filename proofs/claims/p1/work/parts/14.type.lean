def et_by (b : Int64) (i : Int32) : Int32 := (((b.toUInt64 >>> ((8 * i).toInt64.toUInt64 &&& Int64.toUInt64 63)).toInt64) &&& 255).toInt32
set_option maxHeartbeats 4000000 in
set_option maxRecDepth 100000 in
theorem c_T_byteAt {sc : et_X} {h : Nat → et_MC} {d n : Nat} (b : Int64) (i : Int32) : et_Cn sc Y_T_byteAt d [.long b, .int i] h n 0 0 (fun r h' n' => r = .inl (some (.int (et_by b i))) ∧ n' = n ∧ h' = h) := by
  refine et_Cn.of 0 rfl rfl (by decide) mS_T_byteAt.1 ?_
  refine et_lload_n (i := 0) d_T_byteAt_0 rfl rfl ?_
  refine et_bipush (v := 8) d_T_byteAt_1 (by decide) ?_
  refine et_iload_n (i := 2) d_T_byteAt_3 rfl rfl ?_
  refine et_imul d_T_byteAt_4 ?_
  refine et_lushr d_T_byteAt_5 rfl ?_
  refine et_ldc2 d_T_byteAt_6 kl_T_29 ?_
  refine et_land d_T_byteAt_9 ?_
  refine et_l2i d_T_byteAt_10 rfl ?_
  exact et_iret d_T_byteAt_11 rfl (Nat.le_of_ble_eq_true rfl) (Nat.le_of_ble_eq_true rfl) ⟨rfl, rfl, rfl⟩
/-- what can be typed behind sz characters -/
def et_tok (sz : Nat) (b : Int64) (x : Int32) : Prop := ∃ N : Nat, x = nI N ∧ 1 ≤ N ∧ N ≤ 8 ∧ sz + N ≤ 60 ∧ ∀ i, i < N → 33 ≤ et_by b (nI i) ∧ et_by b (nI i) ≤ 126
def et_tP (sz : Nat) (f : Nat → Int32) (mid wp : Int32) (b : Int64) (x : Int32) (h : Nat → et_MC) (r : et_R) (h' : Nat → et_MC) : Prop :=
  (¬ et_tok sz b x ∧ r = .inl (some (.int (-1))) ∧ h' = h) ∨
  (∃ (N : Nat) (g : Nat → Int32), x = nI N ∧ et_tok sz b x ∧ r = .inl (some (.int (nI (sz + N)))) ∧ h' = va_up (va_up h 2 (.inl (0, 60, .inl g))) 1 (.inr (4, [.ref 2, .int (nI (sz + N)), .int mid, .int wp])) ∧ (∀ j, j < sz → g j = f j) ∧ ∀ j, j < N → g (sz + j) = et_by b (nI (N - 1 - j)))
theorem et_tP_r {sz : Nat} {f : Nat → Int32} {mid wp : Int32} {b : Int64} {x : Int32} {h h' : Nat → et_MC} {r : et_R} (hp : et_tP sz f mid wp b x h r h') : ∃ w : Int32, r = .inl (some (.int w)) := by
  rcases hp with ⟨-, z, -⟩ | ⟨N, g, -, -, z, -⟩
  · exact ⟨_, z⟩
  · exact ⟨_, z⟩
theorem et_up21 {α : Type} (h : Nat → α) (A T A' T' : α) : va_up (va_up (va_up (va_up h 2 A) 1 T) 2 A') 1 T' = va_up (va_up h 2 A') 1 T' := by
  funext k
  by_cases e1 : k = 1
  · simp [va_up, e1]
  · by_cases e2 : k = 2 <;> simp [va_up, e1, e2]
theorem et_lt_i {x y : Int32} (h : x < y) : x.toInt < y.toInt := Int32.lt_iff_toInt_lt.mp h
theorem et_le_i {x y : Int32} (h : x ≤ y) : x.toInt ≤ y.toInt := Int32.le_iff_toInt_le.mp h
theorem et_nlt_i {x y : Int32} (h : ¬ x < y) : y.toInt ≤ x.toInt := by
  have := Int32.not_lt.mp h
  exact Int32.le_iff_toInt_le.mp this
theorem et_nle_i {x y : Int32} (h : ¬ x ≤ y) : y.toInt < x.toInt := by
  have := Int32.not_le.mp h
  exact Int32.lt_iff_toInt_lt.mp this
theorem et_m1 (x : Int32) : x + Int32.ofInt (-1) = x - 1 := by rw [Int32.sub_eq_add_neg]; rfl
set_option maxHeartbeats 4000000 in
set_option maxRecDepth 100000 in
theorem c_T_append {sc : et_X} {h : Nat → et_MC} {d n : Nat} {sz : Nat} {f : Nat → Int32} {mid wp : Int32} (b : Int64) (x : Int32) (hsz : sz ≤ 60) (h1 : h 1 = .inr (4, [.ref 2, .int (nI sz), .int mid, .int wp])) (h2 : h 2 = .inl (0, 60, .inl f)) : et_Cn sc Y_T_append (d + 1) [.ref 1, .long b, .int x] h n 0 0 (fun r h' n' => n' = n ∧ et_tP sz f mid wp b x h r h') := by
  refine et_Cn.of 2 rfl rfl (by decide) mV_T_append.1 ?_
  have e0 : (0 : Int32).toInt = 0 := rfl
  have e1 : (1 : Int32).toInt = 1 := rfl
  have e8 : (8 : Int32).toInt = 8 := rfl
  have e60 : (60 : Int32).toInt = 60 := rfl
  refine et_iload_n (i := 3) d_T_append_0 rfl rfl ?_
  refine et_iconst (v := 1) d_T_append_1 (by decide) ?_
  refine et_icmp_lt (tgt := 22) d_T_append_2 (by decide) (fun q1 => ?_) (fun q1 => ?_)
  · have c1 := et_lt_i q1
    refine et_iconst (v := (-1)) d_T_append_22 (by decide) ?_
    exact et_iret d_T_append_23 rfl (Nat.le_of_ble_eq_true rfl) (Nat.le_of_ble_eq_true rfl) ⟨rfl, Or.inl ⟨fun ⟨N, z1, z2, z3, _⟩ => by rw [z1, nI_toInt (by omega), e1] at c1; omega, rfl, rfl⟩⟩
  have c1 := et_nlt_i q1
  refine et_iload_n (i := 3) d_T_append_5 rfl rfl ?_
  refine et_bipush (v := 8) d_T_append_6 (by decide) ?_
  refine et_icmp_gt (tgt := 22) d_T_append_8 (by decide) (fun q2 => ?_) (fun q2 => ?_)
  · have c2 := et_lt_i q2
    refine et_iconst (v := (-1)) d_T_append_22 (by decide) ?_
    exact et_iret d_T_append_23 rfl (Nat.le_of_ble_eq_true rfl) (Nat.le_of_ble_eq_true rfl) ⟨rfl, Or.inl ⟨fun ⟨N, z1, z2, z3, _⟩ => by rw [z1, nI_toInt (by omega), e8] at c2; omega, rfl, rfl⟩⟩
  have c2 := et_nlt_i q2
  rw [e1] at c1
  rw [e8] at c2
  obtain ⟨N, hN8, hx⟩ : ∃ N : Nat, N ≤ 8 ∧ x = nI N := nI_of2 (M := 8) e8 (fun z => by have := et_lt_i z; rw [e0] at this; omega) (Int32.le_iff_toInt_le.mpr (by rw [e8]; exact c2))
  subst hx
  rw [nI_toInt (by omega)] at c1
  have key : ∀ N', nI N = nI N' → N' ≤ 8 → N = N' := fun N' z1 z2 => (nI_eq (by omega) (by omega)).mp z1
  refine et_aload_n (i := 0) d_T_append_11 rfl rfl ?_
  refine et_getf (ci := 4) 1 d_T_append_12 h1 rfl in_T (by decide) fl_T_15 rfl ?_
  refine et_iload_n (i := 3) d_T_append_15 rfl rfl ?_
  refine et_iadd d_T_append_16 ?_
  refine et_bipush (v := 60) d_T_append_17 (by decide) ?_
  refine et_icmp_le (tgt := 24) d_T_append_19 (by decide) (fun q3 => ?_) (fun q3 => ?_)
  rotate_left
  · have c3 := et_nle_i q3
    rw [nI_add, nI_toInt (by omega), e60] at c3
    refine et_iconst (v := (-1)) d_T_append_22 (by decide) ?_
    exact et_iret d_T_append_23 rfl (Nat.le_of_ble_eq_true rfl) (Nat.le_of_ble_eq_true rfl) ⟨rfl, Or.inl ⟨fun ⟨N', z1, z2, z3, z4, _⟩ => by have := key N' z1 z3; omega, rfl, rfl⟩⟩
  have c3 := et_le_i q3
  rw [nI_add, nI_toInt (by omega), e60] at c3
  -- the writes
  have wr : ∀ (t : Nat) (g : Nat → Int32) (hh : Nat → et_MC) (o5 : Option Value), t ≤ N → (∀ i, i < N → 33 ≤ et_by b (nI i) ∧ et_by b (nI i) ≤ 126) → hh = va_up (va_up h 2 (.inl (0, 60, .inl g))) 1 (.inr (4, [.ref 2, .int (nI (sz + (N - t))), .int mid, .int wp])) → (∀ j, j < sz → g j = f j) → (∀ j, j < N - t → g (sz + j) = et_by b (nI (N - 1 - j))) →
      et_M sc Y_T_append (d + 1) 0 0 (fun r h' n' => n' = n ∧ et_tP sz f mid wp b (nI N) h r h') 68 [some (.ref 1), some (.long b), none, some (.int (nI N)), some (.int (nI t - 1)), o5] [] hh n 0 0 := by
    intro t
    induction t with
    | zero =>
      intro g hh o5 ht hok he hg1 hg2
      subst he
      refine et_iload d_T_append_68 rfl ?_
      refine et_if_lt (tgt := 104) d_T_append_70 (by decide) (fun _ => ?_) (fun q => absurd (show nI 0 - 1 < 0 by decide) q)
      refine et_aload_n (i := 0) d_T_append_104 rfl rfl ?_
      refine et_getf (ci := 4) 1 d_T_append_105 rfl rfl in_T (by decide) fl_T_15 rfl ?_
      exact et_iret d_T_append_108 rfl (Nat.le_of_ble_eq_true rfl) (Nat.le_of_ble_eq_true rfl) ⟨rfl, Or.inr ⟨N, g, rfl, ⟨N, rfl, by omega, hN8, by omega, hok⟩, by simp, by simp, hg1, by simpa using hg2⟩⟩
    | succ t ih =>
      intro g hh o5 ht hok he hg1 hg2
      subst he
      rw [nI_pred]
      refine et_iload d_T_append_68 rfl ?_
      refine et_if_lt (tgt := 104) d_T_append_70 (by decide) (fun q => absurd q (nI_pos (by omega))) (fun _ => ?_)
      refine et_aload_n (i := 0) d_T_append_73 rfl rfl ?_
      refine et_getf (ci := 4) 0 d_T_append_74 rfl rfl in_T (by decide) fl_T_9 rfl ?_
      refine et_aload_n (i := 0) d_T_append_77 rfl rfl ?_
      refine et_getf (ci := 4) 1 d_T_append_78 rfl rfl in_T (by decide) fl_T_15 rfl ?_
      refine et_lload_n (i := 1) d_T_append_81 rfl rfl ?_
      refine et_iload d_T_append_82 rfl ?_
      refine et_invS mS_T_byteAt (As := [_, _]) rfl d_T_append_84 lk_T_25 len_T_byteAt (Nat.le_of_ble_eq_true rfl) (c_T_byteAt (d := d) b (nI t)) (Nat.le_refl _) (Nat.le_of_ble_eq_true rfl) (Nat.le_of_ble_eq_true rfl) (fun v h' n' hp => ?_) (fun x h' n' hp => by cases hp.1)
      obtain ⟨hv, rfl, rfl⟩ := hp
      cases hv
      refine et_iast d_T_append_87 rfl (vp_in_nI (show sz + (N - (t + 1)) < 60 by omega) (by decide)) ?_
      refine et_aload_n (i := 0) d_T_append_88 rfl rfl ?_
      refine et_dup d_T_append_89 rfl ?_
      refine et_getf (ci := 4) 1 d_T_append_90 rfl rfl in_T (by decide) fl_T_15 rfl ?_
      refine et_iconst (v := 1) d_T_append_93 (by decide) ?_
      refine et_iadd d_T_append_94 ?_
      refine et_putf (ci := 4) 1 d_T_append_95 rfl rfl in_T ty_T nm_T (by decide) fl_T_15 rfl rfl (fun _ => rfl) (fun _ => rfl) (Nat.le_of_ble_eq_true rfl) (fs' := [_, _, _, _]) rfl ?_
      refine et_iinc (lv' := [_, _, _, _, _, _]) d_T_append_98 rfl (v := nI t - 1) (et_m1 _) (by decide) rfl rfl ?_
      refine et_goto (tgt := 68) d_T_append_101 (by decide) ?_
      refine ih (upd g (nI (sz + (N - (t + 1)))).toNatClampNeg (et_by b (nI t))) _ o5 (by omega) hok ?_ (fun j hj => ?_) (fun j hj => ?_)
      · rw [et_up21]
        congr 6
        rw [nI_1]
        congr 1
        omega
      · rw [nI_clamp (by omega), pk_un (by omega)]
        exact hg1 j hj
      · rw [nI_clamp (by omega)]
        by_cases e : j = N - (t + 1)
        · rw [e, pk_us]
          congr 2
          omega
        · rw [pk_un (by omega)]
          exact hg2 j (by omega)
  -- the checks
  have ck : ∀ (t i : Nat) (o5 : Option Value), i + t = N → (∀ j, j < i → 33 ≤ et_by b (nI j) ∧ et_by b (nI j) ≤ 126) →
      et_M sc Y_T_append (d + 1) 0 0 (fun r h' n' => n' = n ∧ et_tP sz f mid wp b (nI N) h r h') 27 [some (.ref 1), some (.long b), none, some (.int (nI N)), some (.int (nI i)), o5] [] h n 0 0 := by
    intro t
    induction t with
    | zero =>
      intro i o5 hi hok
      obtain rfl : i = N := by omega
      refine et_iload d_T_append_27 rfl ?_
      refine et_iload_n (i := 3) d_T_append_29 rfl rfl ?_
      refine et_icmp_ge (tgt := 63) d_T_append_30 (by decide) (fun _ => ?_) (fun q => absurd (nI_le (Nat.le_refl _) (by omega)) q)
      refine et_iload_n (i := 3) d_T_append_63 rfl rfl ?_
      refine et_iconst (v := 1) d_T_append_64 (by decide) ?_
      refine et_isub d_T_append_65 ?_
      refine et_istore (lv' := [_, _, _, _, _, _]) d_T_append_66 (by decide) rfl rfl ?_
      refine wr i f h o5 (Nat.le_refl _) hok ?_ (fun j _ => rfl) (fun j hj => absurd hj (by omega))
      funext k
      by_cases e1 : k = 1
      · simp [va_up, e1, h1]
      · by_cases e2 : k = 2 <;> simp [va_up, e1, e2, h2]
    | succ t ih =>
      intro i o5 hi hok
      refine et_iload d_T_append_27 rfl ?_
      refine et_iload_n (i := 3) d_T_append_29 rfl rfl ?_
      refine et_icmp_ge (tgt := 63) d_T_append_30 (by decide) (fun q => absurd q (nI_ge (by omega) (by omega))) (fun _ => ?_)
      refine et_lload_n (i := 1) d_T_append_33 rfl rfl ?_
      refine et_iload d_T_append_34 rfl ?_
      refine et_invS mS_T_byteAt (As := [_, _]) rfl d_T_append_36 lk_T_25 len_T_byteAt (Nat.le_of_ble_eq_true rfl) (c_T_byteAt (d := d) b (nI i)) (Nat.le_refl _) (Nat.le_of_ble_eq_true rfl) (Nat.le_of_ble_eq_true rfl) (fun v h' n' hp => ?_) (fun x h' n' hp => by cases hp.1)
      obtain ⟨hv, rfl, rfl⟩ := hp
      cases hv
      refine et_istore (lv' := [_, _, _, _, _, _]) d_T_append_39 (by decide) rfl rfl ?_
      refine et_iload d_T_append_41 rfl ?_
      refine et_bipush (v := 33) d_T_append_43 (by decide) ?_
      refine et_icmp_lt (tgt := 55) d_T_append_45 (by decide) (fun q4 => ?_) (fun q4 => ?_)
      · refine et_iconst (v := (-1)) d_T_append_55 (by decide) ?_
        exact et_iret d_T_append_56 rfl (Nat.le_of_ble_eq_true rfl) (Nat.le_of_ble_eq_true rfl) ⟨rfl, Or.inl ⟨fun ⟨N', z1, z2, z3, z4, z5⟩ => by have e9 := key N' z1 z3; exact absurd (z5 i (by omega)).1 (Int32.not_le.mpr q4), rfl, rfl⟩⟩
      refine et_iload d_T_append_48 rfl ?_
      refine et_bipush (v := 126) d_T_append_50 (by decide) ?_
      refine et_icmp_le (tgt := 57) d_T_append_52 (by decide) (fun q5 => ?_) (fun q5 => ?_)
      rotate_left
      · refine et_iconst (v := (-1)) d_T_append_55 (by decide) ?_
        exact et_iret d_T_append_56 rfl (Nat.le_of_ble_eq_true rfl) (Nat.le_of_ble_eq_true rfl) ⟨rfl, Or.inl ⟨fun ⟨N', z1, z2, z3, z4, z5⟩ => by have e9 := key N' z1 z3; exact q5 (z5 i (by omega)).2, rfl, rfl⟩⟩
      refine et_iinc (lv' := [_, _, _, _, _, _]) d_T_append_57 rfl (v := nI (i + 1)) (nI_1 i) (by decide) rfl rfl ?_
      refine et_goto (tgt := 27) d_T_append_60 (by decide) ?_
      refine ih (i + 1) _ (by omega) (fun j hj => ?_)
      by_cases e : j = i
      · rw [e]; exact ⟨Int32.not_lt.mp q4, q5⟩
      · exact hok j (by omega)
  refine et_iconst (v := 0) d_T_append_24 (by decide) ?_
  refine et_istore (lv' := [_, _, _, _, _, _]) d_T_append_25 (by decide) rfl rfl ?_
  exact ck N 0 none (by omega) (fun j hj => absurd hj (Nat.not_lt_zero j))
set_option maxHeartbeats 4000000 in
set_option maxRecDepth 100000 in
theorem c_E_type {sc : et_X} {h : Nat → et_MC} {d n : Nat} {rc : Int32} {sz : Nat} {f : Nat → Int32} {mid wp : Int32} (b : Int64) (x : Int32) (f0 : h 0 = .inr (6, [.ref 1, .ref 3, .ref 10, .ref 13, .ref 17, .ref 63, .int rc])) (hsz : sz ≤ 60) (h1 : h 1 = .inr (4, [.ref 2, .int (nI sz), .int mid, .int wp])) (h2 : h 2 = .inl (0, 60, .inl f)) : et_Cn sc Y_E_type (d + 2) [.ref 0, .long b, .int x] h n 0 0 (fun r h' n' => n' = n ∧ et_tP sz f mid wp b x h r h') := by
  refine et_Cn.of 0 rfl rfl (by decide) mV_E_type.1 ?_
  refine et_aload_n (i := 0) d_E_type_0 rfl rfl ?_
  refine et_getf (ci := 6) 0 d_E_type_1 f0 rfl in_E (by decide) fl_E_10 rfl ?_
  refine et_lload_n (i := 1) d_E_type_4 rfl rfl ?_
  refine et_iload_n (i := 3) d_E_type_5 rfl rfl ?_
  refine et_invV mV_T_append (As := [_, _]) rfl d_E_type_6 lk_E_58 len_T_append h1 rfl (Nat.le_of_ble_eq_true rfl) (c_T_append (d := d) b x hsz h1 h2) (Nat.le_refl _) (Nat.le_of_ble_eq_true rfl) (Nat.le_of_ble_eq_true rfl) (fun v h' n' hp => ?_) (fun x h' n' hp => by obtain ⟨w, hw⟩ := et_tP_r hp.2; cases hw)
  obtain ⟨rfl, hp⟩ := hp
  obtain ⟨w, hw⟩ := et_tP_r hp
  cases hw
  exact et_iret d_E_type_9 rfl (Nat.le_of_ble_eq_true rfl) (Nat.le_of_ble_eq_true rfl) ⟨rfl, hp⟩
