/-- what the model's type leaves: its answer, its cells -/
def et_tM (sz : Nat) (f : Nat → Int32) (th a_ wr en al se ru nd cs un rs : Int32) (dc ds : Int64) (b : Int64) (x : Int32) (h : Nat → et_MC) (r : et_R) (h' : Nat → et_MC) : Prop :=
  (¬ et_tok sz b x ∧ r = .inl (some (.int (-1))) ∧ h' = va_up h 64 (et_Mo 0 (nI sz) a_ wr en al se ru nd cs un rs dc ds)) ∨
  (∃ (N : Nat) (g : Nat → Int32), x = nI N ∧ et_tok sz b x ∧ r = .inl (some (.int (nI (sz + N)))) ∧ h' = va_up (va_up h 65 (.inl (0, 60, .inl g))) 64 (et_Mo 0 (nI (sz + N)) a_ wr en al se ru nd cs un rs dc ds) ∧ (∀ j, j < sz → g j = f j) ∧ ∀ j, j < N → g (sz + j) = et_by b (nI (N - 1 - j)))
theorem et_tM_r {sz : Nat} {f : Nat → Int32} {th a_ wr en al se ru nd cs un rs : Int32} {dc ds : Int64} {b : Int64} {x : Int32} {h h' : Nat → et_MC} {r : et_R} (hp : et_tM sz f th a_ wr en al se ru nd cs un rs dc ds b x h r h') : ∃ w : Int32, r = .inl (some (.int w)) := by
  rcases hp with ⟨-, z, -⟩ | ⟨N, g, -, -, z, -⟩
  · exact ⟨_, z⟩
  · exact ⟨_, z⟩
theorem et_up6 {α : Type} (h : Nat → α) (A T A' T' : α) : va_up (va_up (va_up (va_up h 65 A) 64 T) 65 A') 64 T' = va_up (va_up h 65 A') 64 T' := by
  funext k
  by_cases e1 : k = 64
  · simp [va_up, e1]
  · by_cases e2 : k = 65 <;> simp [va_up, e1, e2]
set_option maxHeartbeats 4000000 in
set_option maxRecDepth 100000 in
theorem c_M_type {sc : et_X} {h : Nat → et_MC} {d n : Nat} {th a_ wr en al se ru nd cs un rs : Int32} {dc ds : Int64} {sz : Nat} {f : Nat → Int32} (b : Int64) (x : Int32) (hsz : sz ≤ 60) (h64 : h 64 = et_Mo th (nI sz) a_ wr en al se ru nd cs un rs dc ds) (h65 : h 65 = .inl (0, 60, .inl f)) : et_Cn sc Y_M_type (d + 1) [.ref 64, .long b, .int x] h n 0 0 (fun r h' n' => n' = n ∧ et_tM sz f th a_ wr en al se ru nd cs un rs dc ds b x h r h') := by
  refine et_Cn.of 3 rfl rfl (by decide) mV_M_type.1 ?_
  have e1 : (1 : Int32).toInt = 1 := rfl
  have e0 : (0 : Int32).toInt = 0 := rfl
  have e8 : (8 : Int32).toInt = 8 := rfl
  have e60 : (60 : Int32).toInt = 60 := rfl
  refine et_aload_n (i := 0) d_M_type_0 rfl rfl ?_
  refine et_iconst (v := 0) d_M_type_1 (by decide) ?_
  refine et_putf (ci := 7) 0 d_M_type_2 h64 rfl in_M ty_M nm_M (by decide) fl_M_72 rfl rfl (fun _ => rfl) (fun _ => rfl) (Nat.le_of_ble_eq_true rfl) (fs' := [_, _, _, _, _, _, _, _, _, _, _, _, _, _, _, _, _, _, _, _, _, _, _, _, _, _, _, _, _, _, _, _, _]) rfl ?_
  refine et_iload_n (i := 3) d_M_type_5 rfl rfl ?_
  refine et_iconst (v := 1) d_M_type_6 (by decide) ?_
  refine et_bipush (v := 8) d_M_type_7 (by decide) ?_
  refine et_invS mS_M_within (As := [_, _, _]) rfl d_M_type_9 lk_M_75 len_M_within (Nat.le_of_ble_eq_true rfl) (c_M_within (d := d) x 1 8) (Nat.le_refl _) (Nat.le_of_ble_eq_true rfl) (Nat.le_of_ble_eq_true rfl) (fun v h' n' hp => ?_) (fun x h' n' hp => by cases hp.1)
  obtain ⟨hv, hn2, hh2⟩ := hp
  cases hv
  subst hh2
  replace hn2 := hn2.symm
  subst hn2
  by_cases ew : 1 ≤ x ∧ x ≤ 8
  rotate_left
  · rw [if_neg ew]
    refine et_if_eq (tgt := 26) d_M_type_12 (by decide) (fun _ => ?_) (fun q => absurd (by decide) q)
    refine et_iconst (v := (-1)) d_M_type_26 (by decide) ?_
    exact et_iret d_M_type_27 rfl (Nat.le_of_ble_eq_true rfl) (Nat.le_of_ble_eq_true rfl) ⟨rfl, Or.inl ⟨fun ⟨N, z1, z2, z3, _⟩ => ew (by rw [z1]; exact ⟨nI_le (a := 1) (b := N) z2 (by omega), nI_le (a := N) (b := 8) z3 (by decide)⟩), rfl, rfl⟩⟩
  rw [if_pos ew]
  refine et_if_eq (tgt := 26) d_M_type_12 (by decide) (fun q => absurd q (by decide)) (fun _ => ?_)
  have c1 := et_le_i ew.1
  have c2 := et_le_i ew.2
  rw [e1] at c1
  rw [e8] at c2
  obtain ⟨N, hN8, hx⟩ : ∃ N : Nat, N ≤ 8 ∧ x = nI N := nI_of2 (M := 8) e8 (fun z => by have := et_lt_i z; rw [e0] at this; omega) ew.2
  subst hx
  rw [nI_toInt (by omega)] at c1
  have key : ∀ N', nI N = nI N' → N' ≤ 8 → N = N' := fun N' z1 z2 => (nI_eq (by omega) (by omega)).mp z1
  refine et_aload_n (i := 0) d_M_type_15 rfl rfl ?_
  refine et_getf (ci := 7) 2 d_M_type_16 rfl rfl in_M (by decide) fl_M_79 rfl ?_
  refine et_iload_n (i := 3) d_M_type_19 rfl rfl ?_
  refine et_iadd d_M_type_20 ?_
  refine et_bipush (v := 60) d_M_type_21 (by decide) ?_
  refine et_icmp_le (tgt := 28) d_M_type_23 (by decide) (fun q3 => ?_) (fun q3 => ?_)
  rotate_left
  · have c3 := et_nle_i q3
    rw [nI_add, nI_toInt (by omega), e60] at c3
    refine et_iconst (v := (-1)) d_M_type_26 (by decide) ?_
    exact et_iret d_M_type_27 rfl (Nat.le_of_ble_eq_true rfl) (Nat.le_of_ble_eq_true rfl) ⟨rfl, Or.inl ⟨fun ⟨N', z1, z2, z3, z4, _⟩ => by have := key N' z1 z3; omega, rfl, rfl⟩⟩
  have c3 := et_le_i q3
  rw [nI_add, nI_toInt (by omega), e60] at c3
  -- the writes
  have wr' : ∀ (t : Nat) (g : Nat → Int32) (hh : Nat → et_MC) (o5 : Option Value), t ≤ N → (∀ i, i < N → 33 ≤ et_by b (nI i) ∧ et_by b (nI i) ≤ 126) → hh = va_up (va_up h 65 (.inl (0, 60, .inl g))) 64 (et_Mo 0 (nI (sz + (N - t))) a_ wr en al se ru nd cs un rs dc ds) → (∀ j, j < sz → g j = f j) → (∀ j, j < N - t → g (sz + j) = et_by b (nI (N - 1 - j))) →
      et_M sc Y_M_type (d + 1) 0 0 (fun r h' n' => n' = n ∧ et_tM sz f th a_ wr en al se ru nd cs un rs dc ds b (nI N) h r h') 81 [some (.ref 64), some (.long b), none, some (.int (nI N)), some (.int (nI t - 1)), o5, none] [] hh n 0 0 := by
    intro t
    induction t with
    | zero =>
      intro g hh o5 ht hok he hg1 hg2
      subst he
      refine et_iload d_M_type_81 rfl ?_
      refine et_if_lt (tgt := 123) d_M_type_83 (by decide) (fun _ => ?_) (fun q => absurd (show nI 0 - 1 < 0 by decide) q)
      refine et_aload_n (i := 0) d_M_type_123 rfl rfl ?_
      refine et_getf (ci := 7) 2 d_M_type_124 rfl rfl in_M (by decide) fl_M_79 rfl ?_
      exact et_iret d_M_type_127 rfl (Nat.le_of_ble_eq_true rfl) (Nat.le_of_ble_eq_true rfl) ⟨rfl, Or.inr ⟨N, g, rfl, ⟨N, rfl, by omega, hN8, by omega, hok⟩, by simp, by simp, hg1, by simpa using hg2⟩⟩
    | succ t ih =>
      intro g hh o5 ht hok he hg1 hg2
      subst he
      rw [nI_pred]
      refine et_iload d_M_type_81 rfl ?_
      refine et_if_lt (tgt := 123) d_M_type_83 (by decide) (fun q => absurd q (nI_pos (by omega))) (fun _ => ?_)
      refine et_aload_n (i := 0) d_M_type_86 rfl rfl ?_
      refine et_getf (ci := 7) 1 d_M_type_87 rfl rfl in_M (by decide) fl_M_7 rfl ?_
      refine et_aload_n (i := 0) d_M_type_90 rfl rfl ?_
      refine et_getf (ci := 7) 2 d_M_type_91 rfl rfl in_M (by decide) fl_M_79 rfl ?_
      refine et_lload_n (i := 1) d_M_type_94 rfl rfl ?_
      refine et_bipush (v := 8) d_M_type_95 (by decide) ?_
      refine et_iload d_M_type_97 rfl ?_
      refine et_imul d_M_type_99 ?_
      refine et_lshr d_M_type_100 rfl ?_
      refine et_ldc2 d_M_type_101 kl_M_82 ?_
      refine et_land d_M_type_104 ?_
      rw [et_sh b (show t < 8 by omega)]
      refine et_l2i (v := et_by b (nI t)) d_M_type_105 rfl ?_
      refine et_iast d_M_type_106 rfl (vp_in_nI (show sz + (N - (t + 1)) < 60 by omega) (by decide)) ?_
      refine et_aload_n (i := 0) d_M_type_107 rfl rfl ?_
      refine et_dup d_M_type_108 rfl ?_
      refine et_getf (ci := 7) 2 d_M_type_109 rfl rfl in_M (by decide) fl_M_79 rfl ?_
      refine et_iconst (v := 1) d_M_type_112 (by decide) ?_
      refine et_iadd d_M_type_113 ?_
      refine et_putf (ci := 7) 2 d_M_type_114 rfl rfl in_M ty_M nm_M (by decide) fl_M_79 rfl rfl (fun _ => rfl) (fun _ => rfl) (Nat.le_of_ble_eq_true rfl) (fs' := [_, _, _, _, _, _, _, _, _, _, _, _, _, _, _, _, _, _, _, _, _, _, _, _, _, _, _, _, _, _, _, _, _]) rfl ?_
      refine et_iinc (lv' := [_, _, _, _, _, _, _]) d_M_type_117 rfl (v := nI t - 1) (et_m1 _) (by decide) rfl rfl ?_
      refine et_goto (tgt := 81) d_M_type_120 (by decide) ?_
      refine ih (upd g (nI (sz + (N - (t + 1)))).toNatClampNeg (et_by b (nI t))) _ o5 (by omega) hok ?_ (fun j hj => ?_) (fun j hj => ?_)
      · rw [et_up6, nI_1, show sz + (N - (t + 1)) + 1 = sz + (N - t) by omega]
      · rw [nI_clamp (by omega), pk_un (by omega)]
        exact hg1 j hj
      · rw [nI_clamp (by omega)]
        by_cases e : j = N - (t + 1)
        · rw [e, pk_us]
          congr 2
          omega
        · rw [pk_un (by omega)]
          exact hg2 j (by omega)
  -- the checks
  have ck : ∀ (t i : Nat) (o5 : Option Value), i + t = N → (∀ j, j < i → 33 ≤ et_by b (nI j) ∧ et_by b (nI j) ≤ 126) →
      et_M sc Y_M_type (d + 1) 0 0 (fun r h' n' => n' = n ∧ et_tM sz f th a_ wr en al se ru nd cs un rs dc ds b (nI N) h r h') 31 [some (.ref 64), some (.long b), none, some (.int (nI N)), some (.int (nI i)), o5, none] [] (va_up h 64 (et_Mo 0 (nI sz) a_ wr en al se ru nd cs un rs dc ds)) n 0 0 := by
    intro t
    induction t with
    | zero =>
      intro i o5 hi hok
      obtain rfl : i = N := by omega
      refine et_iload d_M_type_31 rfl ?_
      refine et_iload_n (i := 3) d_M_type_33 rfl rfl ?_
      refine et_icmp_ge (tgt := 76) d_M_type_34 (by decide) (fun _ => ?_) (fun q => absurd (nI_le (Nat.le_refl _) (by omega)) q)
      refine et_iload_n (i := 3) d_M_type_76 rfl rfl ?_
      refine et_iconst (v := 1) d_M_type_77 (by decide) ?_
      refine et_isub d_M_type_78 ?_
      refine et_istore (lv' := [_, _, _, _, _, _, _]) d_M_type_79 (by decide) rfl rfl ?_
      refine wr' i f _ o5 (Nat.le_refl _) hok ?_ (fun j _ => rfl) (fun j hj => absurd hj (by omega))
      rw [Nat.sub_self, Nat.add_zero, et_upself h65]
    | succ t ih =>
      intro i o5 hi hok
      obtain ⟨mm, hm1, hm2, hm3⟩ := et_byte b (nI i)
      refine et_iload d_M_type_31 rfl ?_
      refine et_iload_n (i := 3) d_M_type_33 rfl rfl ?_
      refine et_icmp_ge (tgt := 76) d_M_type_34 (by decide) (fun q => absurd q (nI_ge (by omega) (by omega))) (fun _ => ?_)
      refine et_lload_n (i := 1) d_M_type_37 rfl rfl ?_
      refine et_bipush (v := 8) d_M_type_38 (by decide) ?_
      refine et_iload d_M_type_40 rfl ?_
      refine et_imul d_M_type_42 ?_
      refine et_lshr d_M_type_43 rfl ?_
      refine et_ldc2 d_M_type_44 kl_M_82 ?_
      refine et_land d_M_type_47 ?_
      rw [et_sh b (show i < 8 by omega), hm2]
      refine et_lstore (lv' := [_, _, _, _, _, _, _]) d_M_type_48 (by decide) rfl rfl ?_
      refine et_lload d_M_type_50 rfl ?_
      refine et_ldc2 d_M_type_52 kl_M_84 ?_
      refine et_lcmp d_M_type_55 ?_
      refine et_if_lt (tgt := 68) d_M_type_56 (by decide) (fun q4 => ?_) (fun q4 => ?_)
      · have q4 : mm < 33 := (lN_lt (by omega) (by decide)).mp ((lg_cmp_lt _ _).mp q4)
        refine et_iconst (v := (-1)) d_M_type_68 (by decide) ?_
        exact et_iret d_M_type_69 rfl (Nat.le_of_ble_eq_true rfl) (Nat.le_of_ble_eq_true rfl) ⟨rfl, Or.inl ⟨fun ⟨N', z1, z2, z3, z4, z5⟩ => by have e9 := key N' z1 z3; have z6 := (z5 i (by omega)).1; rw [hm3] at z6; exact absurd z6 (nI_ge (a := mm) (b := 33) q4 (by decide)), rfl, rfl⟩⟩
      refine et_lload d_M_type_59 rfl ?_
      refine et_ldc2 d_M_type_61 kl_M_86 ?_
      refine et_lcmp d_M_type_64 ?_
      refine et_if_le (tgt := 70) d_M_type_65 (by decide) (fun q5 => ?_) (fun q5 => ?_)
      rotate_left
      · have q5 : 126 < mm := Nat.not_le.mp (fun z => q5 ((lg_cmp_le _ _).mpr ((lN_le (b := 126) (by omega) (by decide)).mpr z)))
        refine et_iconst (v := (-1)) d_M_type_68 (by decide) ?_
        exact et_iret d_M_type_69 rfl (Nat.le_of_ble_eq_true rfl) (Nat.le_of_ble_eq_true rfl) ⟨rfl, Or.inl ⟨fun ⟨N', z1, z2, z3, z4, z5⟩ => by have e9 := key N' z1 z3; have z6 := (z5 i (by omega)).2; rw [hm3] at z6; exact absurd z6 (nI_ge (a := 126) (b := mm) q5 (by omega)), rfl, rfl⟩⟩
      refine et_iinc (lv' := [_, _, _, _, _, _, _]) d_M_type_70 rfl (v := nI (i + 1)) (nI_1 i) (by decide) rfl rfl ?_
      refine et_goto (tgt := 31) d_M_type_73 (by decide) ?_
      refine ih (i + 1) _ (by omega) (fun j hj => ?_)
      by_cases e : j = i
      · rw [e, hm3]
        have q6 : ¬ mm < 33 := fun z => q4 ((lg_cmp_lt _ _).mpr ((lN_lt (b := 33) (by omega) (by decide)).mpr z))
        have q7 : mm ≤ 126 := (lN_le (b := 126) (by omega) (by decide)).mp ((lg_cmp_le _ _).mp q5)
        exact ⟨nI_le (a := 33) (b := mm) (by omega) (by omega), nI_le (a := mm) (b := 126) q7 (by decide)⟩
      · exact hok j (by omega)
  refine et_iconst (v := 0) d_M_type_28 (by decide) ?_
  refine et_istore (lv' := [_, _, _, _, _, _, _]) d_M_type_29 (by decide) rfl rfl ?_
  exact ck N 0 none (by omega) (fun j hj => absurd hj (Nat.not_lt_zero j))
