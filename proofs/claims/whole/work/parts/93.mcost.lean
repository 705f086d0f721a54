/-! ===== the model's cost and best ===== -/
def et_MB (p79 : Nat → Int32) (h : Nat → et_MC) : Prop := h 79 = .inl (0, 128, .inl p79) ∧ (∃ f, h 80 = .inl (1, 104, .inr (.inl f))) ∧ (∃ f, h 81 = .inl (1, 104, .inr (.inl f))) ∧ (∃ f, h 82 = .inl (0, 6240, .inl f)) ∧ ∃ f, h 83 = .inl (0, 60, .inl f)
theorem et_MB.same {p79 : Nat → Int32} {h h' : Nat → et_MC} (H : et_MB p79 h) (e : ∀ k, 79 ≤ k → k ≤ 83 → h' k = h k) : et_MB p79 h' := by
  obtain ⟨h1, ⟨f2, h2⟩, ⟨f3, h3⟩, ⟨f4, h4⟩, f5, h5⟩ := H
  exact ⟨(e 79 (by decide) (by decide)).trans h1, ⟨f2, (e 80 (by decide) (by decide)).trans h2⟩, ⟨f3, (e 81 (by decide) (by decide)).trans h3⟩, ⟨f4, (e 82 (by decide) (by decide)).trans h4⟩, f5, (e 83 (by decide) (by decide)).trans h5⟩
set_option maxHeartbeats 4000000 in
set_option maxRecDepth 100000 in
theorem c_M_cost {sc : et_X} {h : Nat → et_MC} {d n : Nat} {f : Nat → Int32} {sz : Nat} {th wp ru : Int32} {g : gr} (hsz : sz ≤ 60) (hok : gG 40 g) (hM : et_ME th f sz wp ru g h) {p79 : Nat → Int32} {pr : Int32 → Nat} {v : Nat → tri} (hB : et_MB p79 h) (hp : prOk p79 pr) (hv : bst g pr v) (hvo : ∀ c, c < gC g → tOk (v c)) : et_Cn sc Y_M_cost (d + 5) [.ref 64] h n 0 0 (fun r h' n' => n' = n ∧ (∀ k, (k < 64 ∨ k = 66 ∨ k = 67 ∨ (75 < k ∧ k < 80) ∨ 83 < k) → h' k = h k) ∧ et_MB p79 h' ∧ (((fwN f false false sz 0 1 0).1 ≠ 0 ∧ r = .inl (some (.long 0)) ∧ et_ME 1 f sz (eI (fwN f false false sz 0 1 0).1) ru g h') ∨ ((fwN f false false sz 0 1 0).1 = 0 ∧ r = .inl (some (.long (cvL v (gLook (gI g) (sg f sz sz))))) ∧ et_ME 0 f 0 wp ru g h'))) := by
  refine et_Cn.of 1 rfl rfl (by decide) mV_M_cost.1 ?_
  have hkM : kM = 4611686018427387904 := rfl
  obtain ⟨⟨a_, en, al, se, u, rs, dc, ds, h64⟩, hMr⟩ := id hM
  refine et_aload_n (i := 0) d_M_cost_0 rfl rfl ?_
  refine et_invV mV_M_asked (As := []) rfl d_M_cost_1 lk_M_196 len_M_asked h64 rfl (Nat.le_of_ble_eq_true rfl) (c_M_asked (d := d) hsz hok hM) (Nat.le_refl _) (Nat.le_of_ble_eq_true rfl) (Nat.le_of_ble_eq_true rfl) (fun v ha n' hp => ?_) (fun x h' n' hp => by obtain ⟨-, -, ⟨-, e, -⟩ | ⟨-, e, -⟩⟩ := hp <;> cases e)
  obtain ⟨hn2, fr, hres⟩ := hp
  replace hn2 := hn2.symm
  subst hn2
  have hB1 : et_MB p79 ha := hB.same (fun k a b => fr k (by omega))
  have fr1 : ∀ k, (k < 64 ∨ k = 66 ∨ k = 67 ∨ (75 < k ∧ k < 80) ∨ 83 < k) → ha k = h k := fun k hk => fr k (by omega)
  rcases hres with ⟨q0, hv1, hM1⟩ | ⟨q0, hv1, hlk, hM1⟩
  · cases hv1
    obtain ⟨⟨a1, en1, al1, se1, u1, rs1, dc1, ds1, j64⟩, hMr1⟩ := id hM1
    refine et_istore_n (i := 1) (lv' := [_, _]) d_M_cost_4 rfl (by decide) rfl rfl ?_
    refine et_aload_n (i := 0) d_M_cost_5 rfl rfl ?_
    refine et_getf (ci := 7) 0 d_M_cost_6 j64 rfl in_M (by decide) fl_M_72 rfl ?_
    refine et_if_le (tgt := 14) d_M_cost_9 (by decide) (fun q => absurd q (by decide)) (fun _ => ?_)
    refine et_lconst (v := 0) d_M_cost_12 (by decide) ?_
    exact et_lret d_M_cost_13 rfl (Nat.le_refl _) (Nat.le_refl _) ⟨rfl, fr1, hB1, Or.inl ⟨q0, rfl, hM1⟩⟩
  · cases hv1
    obtain ⟨⟨a1, en1, al1, se1, u1, rs1, dc1, ds1, j64⟩, j65, jg, ⟨b73, j73⟩, ⟨b74, j74⟩, b75, j75⟩ := id hM1
    obtain ⟨j79, ⟨f80, j80⟩, ⟨f81, j81⟩, ⟨f82, j82⟩, f83, j83⟩ := id hB1
    have o1 := hok.1.1
    have o2 := hok.1.2.1
    refine et_istore_n (i := 1) (lv' := [_, _]) d_M_cost_4 rfl (by decide) rfl rfl ?_
    refine et_aload_n (i := 0) d_M_cost_5 rfl rfl ?_
    refine et_getf (ci := 7) 0 d_M_cost_6 j64 rfl in_M (by decide) fl_M_72 rfl ?_
    refine et_if_le (tgt := 14) d_M_cost_9 (by decide) (fun _ => ?_) (fun q => absurd (by decide) q)
    refine et_iload_n (i := 1) d_M_cost_14 rfl rfl ?_
    cases hw : gLook (gI g) (sg f sz sz) with
    | zero =>
      rw [eI_0]
      refine et_if_ge (tgt := 22) d_M_cost_15 (by decide) (fun q => absurd q (by decide)) (fun _ => ?_)
      refine et_ldc2 d_M_cost_18 kl_M_223 ?_
      exact et_lret d_M_cost_21 rfl (Nat.le_refl _) (Nat.le_refl _) ⟨rfl, fr1, hB1, Or.inr ⟨q0, by rw [cvL, if_pos rfl], hM1⟩⟩
    | succ c =>
      rw [hw] at hlk
      rw [eI_s]
      refine et_if_ge (tgt := 22) d_M_cost_15 (by decide) (fun _ => ?_) (fun q => absurd (nI_pos' (by omega)) q)
      refine et_aload_n (i := 0) d_M_cost_22 rfl rfl ?_
      refine et_invV mV_M_findBest (As := []) rfl d_M_cost_23 lk_M_225 len_M_findBest j64 rfl (Nat.le_of_ble_eq_true rfl) (c_M_findBest (d := d + 2) hok j64 jg j79 hp hv j80 j81 j82 j83) (Nat.le_refl _) (Nat.le_of_ble_eq_true rfl) (Nat.le_of_ble_eq_true rfl) (fun v hb n' hp => ?_) (fun x h' n' hp => by cases hp.1)
      obtain ⟨hv1, hn2, fr2, ⟨dc2, ds2, k64⟩, c80, c81, b82, dr, k80, k81, k82, k83, hBS⟩ := hp
      cases hv1
      replace hn2 := hn2.symm
      subst hn2
      obtain ⟨t1, w1, w2, w3⟩ := hBS c hlk
      have vb := t1.1
      have vb2 := t1.2.1
      have hMb : et_ME 0 f 0 wp ru g hb := ⟨⟨_, _, _, _, _, _, _, _, k64⟩, (fr2 65 (by decide) (by decide)).trans j65, jg.same (fun k a b => fr2 k (by omega) (by omega)), ⟨_, (fr2 73 (by decide) (by decide)).trans j73⟩, ⟨_, (fr2 74 (by decide) (by decide)).trans j74⟩, _, (fr2 75 (by decide) (by decide)).trans j75⟩
      have hBb : et_MB p79 hb := ⟨(fr2 79 (by decide) (by decide)).trans j79, ⟨_, k80⟩, ⟨_, k81⟩, ⟨_, k82⟩, _, k83⟩
      have frb : ∀ k, (k < 64 ∨ k = 66 ∨ k = 67 ∨ (75 < k ∧ k < 80) ∨ 83 < k) → hb k = h k := fun k hk => (fr2 k (by omega) (by omega)).trans (fr1 k hk)
      refine et_aload_n (i := 0) d_M_cost_26 rfl rfl ?_
      refine et_getf (ci := 7) 27 d_M_cost_27 k64 rfl in_M (by decide) fl_M_59 rfl ?_
      refine et_iload_n (i := 1) d_M_cost_30 rfl rfl ?_
      refine et_laln d_M_cost_31 k80 (by omega) (by first | decide | omega) ?_
      rw [w1]
      refine et_ldc2 d_M_cost_32 kl_M_199 ?_
      rw [lN_kM]
      refine et_lcmp d_M_cost_35 ?_
      refine et_if_le (tgt := 45) d_M_cost_36 (by decide) (fun q => ?_) (fun q => ?_)
      · have q2 : (v c).1 ≤ kM := (pk_lLE (by omega) (by omega)).mp ((lg_cmp_le _ _).mp q)
        refine et_aload_n (i := 0) d_M_cost_45 rfl rfl ?_
        refine et_getf (ci := 7) 27 d_M_cost_46 k64 rfl in_M (by decide) fl_M_59 rfl ?_
        refine et_iload_n (i := 1) d_M_cost_49 rfl rfl ?_
        refine et_laln d_M_cost_50 k80 (by omega) (by first | decide | omega) ?_
        rw [w1]
        exact et_lret d_M_cost_51 rfl (Nat.le_refl _) (Nat.le_refl _) ⟨rfl, frb, hBb, Or.inr ⟨q0, by rw [cvL, if_neg (Nat.succ_ne_zero _), Nat.add_sub_cancel, if_neg (by omega)], hMb⟩⟩
      · have q2 : kM < (v c).1 := Nat.lt_of_not_le fun z => q ((lg_cmp_le _ _).mpr ((pk_lLE (by omega) (by omega)).mpr z))
        refine et_ldc2 d_M_cost_39 kl_M_228 ?_
        refine et_goto (tgt := 51) d_M_cost_42 (by decide) ?_
        exact et_lret d_M_cost_51 rfl (Nat.le_refl _) (Nat.le_refl _) ⟨rfl, frb, hBb, Or.inr ⟨q0, by rw [cvL, if_neg (Nat.succ_ne_zero _), Nat.add_sub_cancel, if_pos q2], hMb⟩⟩
set_option maxHeartbeats 4000000 in
set_option maxRecDepth 100000 in
theorem c_M_best {sc : et_X} {h : Nat → et_MC} {d n : Nat} {f : Nat → Int32} {sz : Nat} {th wp ru : Int32} {g : gr} (hsz : sz ≤ 60) (hok : gG 40 g) (hM : et_ME th f sz wp ru g h) {p79 : Nat → Int32} {pr : Int32 → Nat} {v : Nat → tri} (hB : et_MB p79 h) (hp : prOk p79 pr) (hv : bst g pr v) (hvo : ∀ c, c < gC g → tOk (v c)) : et_Cn sc Y_M_best (d + 5) [.ref 64] h n 0 0 (fun r h' n' => n' = n ∧ (∀ k, (k < 64 ∨ k = 66 ∨ k = 67 ∨ (75 < k ∧ k < 80) ∨ 83 < k) → h' k = h k) ∧ et_MB p79 h' ∧ (((fwN f false false sz 0 1 0).1 ≠ 0 ∧ r = .inl (some (.int 0)) ∧ et_ME 1 f sz (eI (fwN f false false sz 0 1 0).1) ru g h') ∨ ((fwN f false false sz 0 1 0).1 = 0 ∧ ((((gLook (gI g) (sg f sz sz)) = 0 ∧ r = .inl (some (.int (-1)))) ∨ ((gLook (gI g) (sg f sz sz)) ≠ 0 ∧ kM < (v ((gLook (gI g) (sg f sz sz)) - 1)).1 ∧ r = .inl (some (.int (-3)))) ∨ ((gLook (gI g) (sg f sz sz)) ≠ 0 ∧ (v ((gLook (gI g) (sg f sz sz)) - 1)).1 ≤ kM ∧ 60 < (v ((gLook (gI g) (sg f sz sz)) - 1)).2.1 ∧ r = .inl (some (.int (-4))))) ∧ et_ME 0 f 0 wp ru g h' ∨ ((gLook (gI g) (sg f sz sz)) ≠ 0 ∧ (v ((gLook (gI g) (sg f sz sz)) - 1)).1 ≤ kM ∧ (v ((gLook (gI g) (sg f sz sz)) - 1)).2.1 ≤ 60 ∧ r = .inl (some (.int (nI (v ((gLook (gI g) (sg f sz sz)) - 1)).2.1))) ∧ ∃ f', et_ME 0 f' (v ((gLook (gI g) (sg f sz sz)) - 1)).2.1 wp ru g h' ∧ chs f' (v ((gLook (gI g) (sg f sz sz)) - 1)).2.1 ∧ num f' (v ((gLook (gI g) (sg f sz sz)) - 1)).2.1 = (v ((gLook (gI g) (sg f sz sz)) - 1)).2.2))))) := by
  refine et_Cn.of 2 rfl rfl (by decide) mV_M_best.1 ?_
  have hkM : kM = 4611686018427387904 := rfl
  obtain ⟨⟨a_, en, al, se, u, rs, dc, ds, h64⟩, hMr⟩ := id hM
  refine et_aload_n (i := 0) d_M_best_0 rfl rfl ?_
  refine et_invV mV_M_asked (As := []) rfl d_M_best_1 lk_M_196 len_M_asked h64 rfl (Nat.le_of_ble_eq_true rfl) (c_M_asked (d := d) hsz hok hM) (Nat.le_refl _) (Nat.le_of_ble_eq_true rfl) (Nat.le_of_ble_eq_true rfl) (fun v ha n' hp => ?_) (fun x h' n' hp => by obtain ⟨-, -, ⟨-, e, -⟩ | ⟨-, e, -⟩⟩ := hp <;> cases e)
  obtain ⟨hn2, fr, hres⟩ := hp
  replace hn2 := hn2.symm
  subst hn2
  have hB1 : et_MB p79 ha := hB.same (fun k a b => fr k (by omega))
  have fr1 : ∀ k, (k < 64 ∨ k = 66 ∨ k = 67 ∨ (75 < k ∧ k < 80) ∨ 83 < k) → ha k = h k := fun k hk => fr k (by omega)
  rcases hres with ⟨q0, hv1, hM1⟩ | ⟨q0, hv1, hlk, hM1⟩
  · cases hv1
    obtain ⟨⟨a1, en1, al1, se1, u1, rs1, dc1, ds1, j64⟩, hMr1⟩ := id hM1
    refine et_istore_n (i := 1) (lv' := [_, _, _]) d_M_best_4 rfl (by decide) rfl rfl ?_
    refine et_aload_n (i := 0) d_M_best_5 rfl rfl ?_
    refine et_getf (ci := 7) 0 d_M_best_6 j64 rfl in_M (by decide) fl_M_72 rfl ?_
    refine et_if_le (tgt := 14) d_M_best_9 (by decide) (fun q => absurd q (by decide)) (fun _ => ?_)
    refine et_iconst (v := 0) d_M_best_12 (by decide) ?_
    exact et_iret d_M_best_13 rfl (Nat.le_refl _) (Nat.le_refl _) ⟨rfl, fr1, hB1, Or.inl ⟨q0, rfl, hM1⟩⟩
  · cases hv1
    obtain ⟨⟨a1, en1, al1, se1, u1, rs1, dc1, ds1, j64⟩, j65, jg, ⟨b73, j73⟩, ⟨b74, j74⟩, b75, j75⟩ := id hM1
    obtain ⟨j79, ⟨f80, j80⟩, ⟨f81, j81⟩, ⟨f82, j82⟩, f83, j83⟩ := id hB1
    have o1 := hok.1.1
    have o2 := hok.1.2.1
    refine et_istore_n (i := 1) (lv' := [_, _, _]) d_M_best_4 rfl (by decide) rfl rfl ?_
    refine et_aload_n (i := 0) d_M_best_5 rfl rfl ?_
    refine et_getf (ci := 7) 0 d_M_best_6 j64 rfl in_M (by decide) fl_M_72 rfl ?_
    refine et_if_le (tgt := 14) d_M_best_9 (by decide) (fun _ => ?_) (fun q => absurd (by decide) q)
    refine et_iload_n (i := 1) d_M_best_14 rfl rfl ?_
    cases hw : gLook (gI g) (sg f sz sz) with
    | zero =>
      rw [eI_0]
      refine et_if_ge (tgt := 20) d_M_best_15 (by decide) (fun q => absurd q (by decide)) (fun _ => ?_)
      refine et_iconst (v := (-1)) d_M_best_18 (by decide) ?_
      exact et_iret d_M_best_19 rfl (Nat.le_refl _) (Nat.le_refl _) ⟨rfl, fr1, hB1, Or.inr ⟨q0, Or.inl ⟨Or.inl ⟨rfl, rfl⟩, hM1⟩⟩⟩
    | succ c =>
      rw [hw] at hlk
      have hne : c + 1 ≠ 0 := Nat.succ_ne_zero _
      have hcc : c + 1 - 1 = c := rfl
      rw [eI_s]
      refine et_if_ge (tgt := 20) d_M_best_15 (by decide) (fun _ => ?_) (fun q => absurd (nI_pos' (by omega)) q)
      refine et_aload_n (i := 0) d_M_best_20 rfl rfl ?_
      refine et_invV mV_M_findBest (As := []) rfl d_M_best_21 lk_M_225 len_M_findBest j64 rfl (Nat.le_of_ble_eq_true rfl) (c_M_findBest (d := d + 2) hok j64 jg j79 hp hv j80 j81 j82 j83) (Nat.le_refl _) (Nat.le_of_ble_eq_true rfl) (Nat.le_of_ble_eq_true rfl) (fun v hb n' hp => ?_) (fun x h' n' hp => by cases hp.1)
      obtain ⟨hv1, hn2, fr2, ⟨dc2, ds2, k64⟩, c80, c81, b82, dr, k80, k81, k82, k83, hBS⟩ := hp
      cases hv1
      replace hn2 := hn2.symm
      subst hn2
      obtain ⟨t1, w1, w2, w3⟩ := hBS c hlk
      have vb := t1.1
      have vb2 := t1.2.1
      have hMb : et_ME 0 f 0 wp ru g hb := ⟨⟨_, _, _, _, _, _, _, _, k64⟩, (fr2 65 (by decide) (by decide)).trans j65, jg.same (fun k a b => fr2 k (by omega) (by omega)), ⟨_, (fr2 73 (by decide) (by decide)).trans j73⟩, ⟨_, (fr2 74 (by decide) (by decide)).trans j74⟩, _, (fr2 75 (by decide) (by decide)).trans j75⟩
      have hBb : et_MB p79 hb := ⟨(fr2 79 (by decide) (by decide)).trans j79, ⟨_, k80⟩, ⟨_, k81⟩, ⟨_, k82⟩, _, k83⟩
      have frb : ∀ k, (k < 64 ∨ k = 66 ∨ k = 67 ∨ (75 < k ∧ k < 80) ∨ 83 < k) → hb k = h k := fun k hk => (fr2 k (by omega) (by omega)).trans (fr1 k hk)
      refine et_aload_n (i := 0) d_M_best_24 rfl rfl ?_
      refine et_getf (ci := 7) 27 d_M_best_25 k64 rfl in_M (by decide) fl_M_59 rfl ?_
      refine et_iload_n (i := 1) d_M_best_28 rfl rfl ?_
      refine et_laln d_M_best_29 k80 (by omega) (by first | decide | omega) ?_
      rw [w1]
      refine et_ldc2 d_M_best_30 kl_M_199 ?_
      rw [lN_kM]
      refine et_lcmp d_M_best_33 ?_
      refine et_if_le (tgt := 40) d_M_best_34 (by decide) (fun q => ?_) (fun q => ?_)
      · have q2 : (v c).1 ≤ kM := (pk_lLE (by omega) (by omega)).mp ((lg_cmp_le _ _).mp q)
        refine et_aload_n (i := 0) d_M_best_40 rfl rfl ?_
        refine et_getf (ci := 7) 28 d_M_best_41 k64 rfl in_M (by decide) fl_M_63 rfl ?_
        refine et_iload_n (i := 1) d_M_best_44 rfl rfl ?_
        refine et_laln d_M_best_45 k81 (by omega) (by first | decide | omega) ?_
        rw [w2]
        refine et_ldc2 d_M_best_46 kl_M_214 ?_
        rw [show (60 : Int64) = lN 60 from rfl]
        refine et_lcmp d_M_best_49 ?_
        refine et_if_le (tgt := 56) d_M_best_50 (by decide) (fun p => ?_) (fun p => ?_)
        · have p2 : (v c).2.1 ≤ 60 := (pk_lLE (by omega) (by omega)).mp ((lg_cmp_le _ _).mp p)
          obtain ⟨y1, y2⟩ := w3 p2
          refine et_aload_n (i := 0) d_M_best_56 rfl rfl ?_
          refine et_aload_n (i := 0) d_M_best_57 rfl rfl ?_
          refine et_getf (ci := 7) 28 d_M_best_58 k64 rfl in_M (by decide) fl_M_63 rfl ?_
          refine et_iload_n (i := 1) d_M_best_61 rfl rfl ?_
          refine et_laln d_M_best_62 k81 (by omega) (by first | decide | omega) ?_
          rw [w2]
          refine et_l2i d_M_best_63 (lN_i _) ?_
          refine et_putf (ci := 7) 2 d_M_best_64 k64 rfl in_M ty_M nm_M (by decide) fl_M_79 rfl rfl (fun _ => rfl) (fun _ => rfl) (Nat.le_of_ble_eq_true rfl) (fs' := [_, _, _, _, _, _, _, _, _, _, _, _, _, _, _, _, _, _, _, _, _, _, _, _, _, _, _, _, _, _, _, _, _]) rfl ?_
          refine et_iconst (v := nI 0) d_M_best_67 (by decide) ?_
          refine et_istore_n (i := 2) (lv' := [_, _, _]) d_M_best_68 rfl (by decide) rfl rfl ?_
          have loop : ∀ (s k : Nat) (f2 : Nat → Int32) (hd : Nat → et_MC), k + s = (v c).2.1 → hd 64 = et_Mo 0 (nI (v c).2.1) a1 wp en1 al1 se1 ru (nI (gN g)) (nI (gC g)) (bI u1) rs1 dc2 ds2 → hd 65 = .inl (0, 60, .inl f2) → (∀ q, q ≠ 64 → q ≠ 65 → hd q = hb q) → (∀ j, j < k → f2 j = b82 (60 * c + j)) → et_M sc Y_M_best (d + 5) 0 0 (fun r h' n' => n' = n ∧ (∀ k, (k < 64 ∨ k = 66 ∨ k = 67 ∨ (75 < k ∧ k < 80) ∨ 83 < k) → h' k = h k) ∧ et_MB p79 h' ∧ (((fwN f false false sz 0 1 0).1 ≠ 0 ∧ r = .inl (some (.int 0)) ∧ et_ME 1 f sz (eI (fwN f false false sz 0 1 0).1) ru g h') ∨ ((fwN f false false sz 0 1 0).1 = 0 ∧ ((((c + 1) = 0 ∧ r = .inl (some (.int (-1)))) ∨ ((c + 1) ≠ 0 ∧ kM < (v ((c + 1) - 1)).1 ∧ r = .inl (some (.int (-3)))) ∨ ((c + 1) ≠ 0 ∧ (v ((c + 1) - 1)).1 ≤ kM ∧ 60 < (v ((c + 1) - 1)).2.1 ∧ r = .inl (some (.int (-4))))) ∧ et_ME 0 f 0 wp ru g h' ∨ ((c + 1) ≠ 0 ∧ (v ((c + 1) - 1)).1 ≤ kM ∧ (v ((c + 1) - 1)).2.1 ≤ 60 ∧ r = .inl (some (.int (nI (v ((c + 1) - 1)).2.1))) ∧ ∃ f', et_ME 0 f' (v ((c + 1) - 1)).2.1 wp ru g h' ∧ chs f' (v ((c + 1) - 1)).2.1 ∧ num f' (v ((c + 1) - 1)).2.1 = (v ((c + 1) - 1)).2.2))))) 69 [some (.ref 64), some (.int (nI c)), some (.int (nI k))] [] hd n 0 0 := by
            intro s
            induction s with
            | zero =>
              intro k f2 hd hk l64 l65 fr3 hf
              obtain rfl : k = (v c).2.1 := by omega
              refine et_iload_n (i := 2) d_M_best_69 rfl rfl ?_
              refine et_aload_n (i := 0) d_M_best_70 rfl rfl ?_
              refine et_getf (ci := 7) 2 d_M_best_71 l64 rfl in_M (by decide) fl_M_79 rfl ?_
              refine et_icmp_ge (tgt := 100) d_M_best_74 (by decide) (fun _ => ?_) (fun q => absurd (nI_le (Nat.le_refl _) (by omega)) q)
              refine et_aload_n (i := 0) d_M_best_100 rfl rfl ?_
              refine et_getf (ci := 7) 2 d_M_best_101 l64 rfl in_M (by decide) fl_M_79 rfl ?_
              exact et_iret d_M_best_104 rfl (Nat.le_refl _) (Nat.le_refl _) ⟨rfl, fun k hk => (fr3 k (by omega) (by omega)).trans (frb k hk), hBb.same (fun k a b => fr3 k (by omega) (by omega)), Or.inr ⟨q0, Or.inr ⟨hne, q2, p2, rfl, f2, ⟨⟨_, _, _, _, _, _, _, _, l64⟩, l65, hMb.2.2.1.same (fun k a b => fr3 k (by omega) (by omega)), ⟨_, (fr3 73 (by decide) (by decide)).trans ((fr2 73 (by decide) (by decide)).trans j73)⟩, ⟨_, (fr3 74 (by decide) (by decide)).trans ((fr2 74 (by decide) (by decide)).trans j74)⟩, _, (fr3 75 (by decide) (by decide)).trans ((fr2 75 (by decide) (by decide)).trans j75)⟩, (fun j hj => by rw [hf j hj]; exact y1 j hj), (num_same (t' := fun j => b82 (60 * c + j)) hf).trans y2⟩⟩⟩
            | succ s ih =>
              intro k f2 hd hk l64 l65 fr3 hf
              have l82 := (fr3 82 (by decide) (by decide)).trans k82
              refine et_iload_n (i := 2) d_M_best_69 rfl rfl ?_
              refine et_aload_n (i := 0) d_M_best_70 rfl rfl ?_
              refine et_getf (ci := 7) 2 d_M_best_71 l64 rfl in_M (by decide) fl_M_79 rfl ?_
              refine et_icmp_ge (tgt := 100) d_M_best_74 (by decide) (fun q => absurd q (nI_ge (by omega) (by omega))) (fun _ => ?_)
              refine et_aload_n (i := 0) d_M_best_77 rfl rfl ?_
              refine et_getf (ci := 7) 1 d_M_best_78 l64 rfl in_M (by decide) fl_M_7 rfl ?_
              refine et_iload_n (i := 2) d_M_best_81 rfl rfl ?_
              refine et_aload_n (i := 0) d_M_best_82 rfl rfl ?_
              refine et_getf (ci := 7) 29 d_M_best_83 l64 rfl in_M (by decide) fl_M_66 rfl ?_
              refine et_bipush (v := nI 60) d_M_best_86 (by decide) ?_
              refine et_iload_n (i := 1) d_M_best_88 rfl rfl ?_
              refine et_imul d_M_best_89 ?_
              rw [nI_mul]
              refine et_iload_n (i := 2) d_M_best_90 rfl rfl ?_
              refine et_iadd d_M_best_91 ?_
              rw [nI_add]
              refine et_ialn d_M_best_92 l82 (by omega) (by first | decide | omega) ?_
              refine et_iasn d_M_best_93 l65 (by omega) (by first | decide | omega) ?_
              refine et_iinc (lv' := [_, _, _]) d_M_best_94 rfl (v := nI (k + 1)) (nI_1 k) (by decide) rfl rfl ?_
              refine et_goto (tgt := 69) d_M_best_97 (by decide) ?_
              refine ih (k + 1) (upd f2 k (b82 (60 * c + k))) _ (by omega) ((va_ne (by decide)).trans l64) va_eq (fun q z1 z2 => (va_ne z2).trans (fr3 q z1 z2)) (fun j hj => ?_)
              by_cases z : j = k
              · rw [z, pk_us]
              · rw [pk_un z]; exact hf j (by omega)
          exact loop (v c).2.1 0 f _ (by omega) va_eq ((va_ne (by decide)).trans ((fr2 65 (by decide) (by decide)).trans j65)) (fun q z1 z2 => va_ne z1) (fun j hj => absurd hj (Nat.not_lt_zero _))
        · have p2 : 60 < (v c).2.1 := Nat.lt_of_not_le fun z => p ((lg_cmp_le _ _).mpr ((pk_lLE (by omega) (by omega)).mpr z))
          refine et_bipush (v := (-4)) d_M_best_53 (by decide) ?_
          exact et_iret d_M_best_55 rfl (Nat.le_refl _) (Nat.le_refl _) ⟨rfl, frb, hBb, Or.inr ⟨q0, Or.inl ⟨Or.inr (Or.inr ⟨hne, q2, p2, rfl⟩), hMb⟩⟩⟩
      · have q2 : kM < (v c).1 := Nat.lt_of_not_le fun z => q ((lg_cmp_le _ _).mpr ((pk_lLE (by omega) (by omega)).mpr z))
        refine et_bipush (v := (-3)) d_M_best_37 (by decide) ?_
        exact et_iret d_M_best_39 rfl (Nat.le_refl _) (Nat.le_refl _) ⟨rfl, frb, hBb, Or.inr ⟨q0, Or.inl ⟨Or.inr (Or.inl ⟨hne, q2, rfl⟩), hMb⟩⟩⟩
