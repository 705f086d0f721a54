set_option maxHeartbeats 4000000 in
set_option maxRecDepth 100000 in
theorem c_S_isVariable {sc : et_X} {h : Nat → et_MC} {d n : Nat} (x : Int32) : et_Cn sc Y_S_isVariable d [.int x] h n 0 0 (fun r h' n' => r = .inl (some (.int (if et_isv x then 1 else 0))) ∧ n' = n ∧ h' = h) := by
  refine et_Cn.of 0 rfl rfl (by decide) mS_S_isVariable.1 ?_
  refine et_iload_n (i := 0) d_S_isVariable_0 rfl rfl ?_
  refine et_bipush (v := 97) d_S_isVariable_1 (by decide) ?_
  refine et_icmp_lt (tgt := 16) d_S_isVariable_3 (by decide) (fun q1 => ?_) (fun q1 => ?_)
  · refine et_iconst (v := 0) d_S_isVariable_16 (by decide) ?_
    exact et_zret d_S_isVariable_17 rfl rfl (Nat.le_of_ble_eq_true rfl) (Nat.le_of_ble_eq_true rfl) ⟨by rw [if_neg (fun z => absurd z.1 (Int32.not_le.mpr q1))], rfl, rfl⟩
  · refine et_iload_n (i := 0) d_S_isVariable_6 rfl rfl ?_
    refine et_bipush (v := 100) d_S_isVariable_7 (by decide) ?_
    refine et_icmp_ge (tgt := 16) d_S_isVariable_9 (by decide) (fun q2 => ?_) (fun q2 => ?_)
    · refine et_iconst (v := 0) d_S_isVariable_16 (by decide) ?_
      exact et_zret d_S_isVariable_17 rfl rfl (Nat.le_of_ble_eq_true rfl) (Nat.le_of_ble_eq_true rfl) ⟨by rw [if_neg (fun z => absurd z.2 (Int32.not_lt.mpr q2))], rfl, rfl⟩
    · refine et_iconst (v := 1) d_S_isVariable_12 (by decide) ?_
      refine et_goto (tgt := 17) d_S_isVariable_13 (by decide) ?_
      exact et_zret d_S_isVariable_17 rfl rfl (Nat.le_of_ble_eq_true rfl) (Nat.le_of_ble_eq_true rfl) ⟨by rw [if_pos ⟨Int32.not_lt.mp q1, Int32.not_le.mp q2⟩], rfl, rfl⟩
set_option maxHeartbeats 4000000 in
set_option maxRecDepth 100000 in
theorem c_S_partsInPattern {sc : et_X} {h : Nat → et_MC} {d n : Nat} (x : Int32) : et_Cn sc Y_S_partsInPattern (d + 1) [.int x] h n 0 0 (fun r h' n' => r = .inl (some (.int (et_pp x))) ∧ n' = n ∧ h' = h) := by
  refine et_Cn.of 0 rfl rfl (by decide) mS_S_partsInPattern.1 ?_
  refine et_iload_n (i := 0) d_S_partsInPattern_0 rfl rfl ?_
  refine et_invS mS_S_isVariable (As := [_]) rfl d_S_partsInPattern_1 lk_S_9 len_S_isVariable (Nat.le_of_ble_eq_true rfl) (c_S_isVariable (d := d) x) (Nat.le_refl _) (Nat.le_of_ble_eq_true rfl) (Nat.le_of_ble_eq_true rfl) (fun v h' n' hp => ?_) (fun x h' n' hp => by cases hp.1)
  obtain ⟨hv, hn2, hh2⟩ := hp
  cases hv
  subst hh2
  replace hn2 := hn2.symm
  subst hn2
  by_cases e : et_isv x
  · rw [if_pos e]
    refine et_if_eq (tgt := 11) d_S_partsInPattern_4 (by decide) (fun q => absurd q (by decide)) (fun _ => ?_)
    refine et_iconst (v := 0) d_S_partsInPattern_7 (by decide) ?_
    refine et_goto (tgt := 15) d_S_partsInPattern_8 (by decide) ?_
    exact et_iret d_S_partsInPattern_15 rfl (Nat.le_of_ble_eq_true rfl) (Nat.le_of_ble_eq_true rfl) ⟨by rw [et_pp, if_pos e], rfl, rfl⟩
  · rw [if_neg e]
    refine et_if_eq (tgt := 11) d_S_partsInPattern_4 (by decide) (fun _ => ?_) (fun q => absurd (by decide) q)
    refine et_iload_n (i := 0) d_S_partsInPattern_11 rfl rfl ?_
    refine et_invS mS_S_parts (As := [_]) rfl d_S_partsInPattern_12 lk_S_15 len_S_parts (Nat.le_of_ble_eq_true rfl) (c_S_parts (d := d) x) (Nat.le_refl _) (Nat.le_of_ble_eq_true rfl) (Nat.le_of_ble_eq_true rfl) (fun v h' n' hp => ?_) (fun x h' n' hp => by cases hp.1)
    obtain ⟨hv, hn2, hh2⟩ := hp
    cases hv
    subst hh2
    replace hn2 := hn2.symm
    subst hn2
    exact et_iret d_S_partsInPattern_15 rfl (Nat.le_of_ble_eq_true rfl) (Nat.le_of_ble_eq_true rfl) ⟨by rw [et_pp, if_neg e], rfl, rfl⟩
set_option maxHeartbeats 4000000 in
set_option maxRecDepth 100000 in
theorem c_G_nodeAmong {sc : et_X} {h : Nat → et_MC} {d n : Nat} {nd cs : Int32} {a4 a5 a6 : Nat → Int32} (h3 : h 3 = .inr (1, [.ref 4, .ref 5, .ref 6, .ref 7, .int nd, .int cs, .ref 8, .ref 9])) (h4 : h 4 = .inl (0, 40, .inl a4)) (h5 : h 5 = .inl (0, 40, .inl a5)) (h6 : h 6 = .inl (0, 40, .inl a6)) (cnt : Nat) (s l r : Int32) (hc : cnt ≤ 40) : et_Cn sc Y_G_nodeAmong d [.ref 3, .int (nI cnt), .int s, .int l, .int r] h n 0 0 (fun r0 h' n' => n' = n ∧ h' = h ∧ ((∃ k, k < cnt ∧ (a4 k = s ∧ a5 k = l ∧ a6 k = r) ∧ (∀ j, j < k → ¬ (a4 j = s ∧ a5 j = l ∧ a6 j = r)) ∧ r0 = .inl (some (.int (nI k)))) ∨ ((∀ k, k < cnt → ¬ (a4 k = s ∧ a5 k = l ∧ a6 k = r)) ∧ r0 = .inl (some (.int (-1)))))) := by
  refine et_Cn.of 1 rfl rfl (by decide) mV_G_nodeAmong.1 ?_
  have loop : ∀ (t i : Nat), i + t = cnt → (∀ j, j < i → ¬ (a4 j = s ∧ a5 j = l ∧ a6 j = r)) → et_M sc Y_G_nodeAmong d 0 0 (fun r0 h' n' => n' = n ∧ h' = h ∧ ((∃ k, k < cnt ∧ (a4 k = s ∧ a5 k = l ∧ a6 k = r) ∧ (∀ j, j < k → ¬ (a4 j = s ∧ a5 j = l ∧ a6 j = r)) ∧ r0 = .inl (some (.int (nI k)))) ∨ ((∀ k, k < cnt → ¬ (a4 k = s ∧ a5 k = l ∧ a6 k = r)) ∧ r0 = .inl (some (.int (-1)))))) 3 [some (.ref 3), some (.int (nI cnt)), some (.int s), some (.int l), some (.int r), some (.int (nI i))] [] h n 0 0 := by
    intro t
    induction t with
    | zero =>
      intro i hi hno
      obtain rfl : i = cnt := by omega
      refine et_iload d_G_nodeAmong_3 rfl ?_
      refine et_iload_n (i := 1) d_G_nodeAmong_5 rfl rfl ?_
      refine et_icmp_ge (tgt := 52) d_G_nodeAmong_6 (by decide) (fun _ => ?_) (fun q => absurd (nI_le (Nat.le_refl _) (by omega)) q)
      refine et_iconst (v := (-1)) d_G_nodeAmong_52 (by decide) ?_
      exact et_iret d_G_nodeAmong_53 rfl (Nat.le_of_ble_eq_true rfl) (Nat.le_of_ble_eq_true rfl) ⟨rfl, rfl, Or.inr ⟨hno, rfl⟩⟩
    | succ t ih =>
      intro i hi hno
      have nxt : ¬ (a4 i = s ∧ a5 i = l ∧ a6 i = r) → et_M sc Y_G_nodeAmong d 0 0 (fun r0 h' n' => n' = n ∧ h' = h ∧ ((∃ k, k < cnt ∧ (a4 k = s ∧ a5 k = l ∧ a6 k = r) ∧ (∀ j, j < k → ¬ (a4 j = s ∧ a5 j = l ∧ a6 j = r)) ∧ r0 = .inl (some (.int (nI k)))) ∨ ((∀ k, k < cnt → ¬ (a4 k = s ∧ a5 k = l ∧ a6 k = r)) ∧ r0 = .inl (some (.int (-1)))))) 46 [some (.ref 3), some (.int (nI cnt)), some (.int s), some (.int l), some (.int r), some (.int (nI i))] [] h n 0 0 := by
        intro hn
        refine et_iinc (lv' := [_, _, _, _, _, _]) d_G_nodeAmong_46 rfl (v := nI (i + 1)) (nI_1 i) (by decide) rfl rfl ?_
        refine et_goto (tgt := 3) d_G_nodeAmong_49 (by decide) ?_
        refine ih (i + 1) (by omega) (fun j hj => ?_)
        by_cases e : j = i
        · rw [e]; exact hn
        · exact hno j (by omega)
      refine et_iload d_G_nodeAmong_3 rfl ?_
      refine et_iload_n (i := 1) d_G_nodeAmong_5 rfl rfl ?_
      refine et_icmp_ge (tgt := 52) d_G_nodeAmong_6 (by decide) (fun q => absurd q (nI_ge (by omega) (by omega))) (fun _ => ?_)
      refine et_aload_n (i := 0) d_G_nodeAmong_9 rfl rfl ?_
      refine et_getf (ci := 1) 0 d_G_nodeAmong_10 h3 rfl in_G (by decide) fl_G_9 rfl ?_
      refine et_iload d_G_nodeAmong_13 rfl ?_
      refine et_ialn d_G_nodeAmong_15 h4 (by omega) (by first | decide | omega) ?_
      refine et_iload_n (i := 2) d_G_nodeAmong_16 rfl rfl ?_
      refine et_icmp_ne (tgt := 46) d_G_nodeAmong_17 (by decide) (fun q1 => ?_) (fun q1 => ?_)
      · exact nxt (fun z => q1 z.1)
      refine et_aload_n (i := 0) d_G_nodeAmong_20 rfl rfl ?_
      refine et_getf (ci := 1) 1 d_G_nodeAmong_21 h3 rfl in_G (by decide) fl_G_15 rfl ?_
      refine et_iload d_G_nodeAmong_24 rfl ?_
      refine et_ialn d_G_nodeAmong_26 h5 (by omega) (by first | decide | omega) ?_
      refine et_iload_n (i := 3) d_G_nodeAmong_27 rfl rfl ?_
      refine et_icmp_ne (tgt := 46) d_G_nodeAmong_28 (by decide) (fun q2 => ?_) (fun q2 => ?_)
      · exact nxt (fun z => q2 z.2.1)
      refine et_aload_n (i := 0) d_G_nodeAmong_31 rfl rfl ?_
      refine et_getf (ci := 1) 2 d_G_nodeAmong_32 h3 rfl in_G (by decide) fl_G_18 rfl ?_
      refine et_iload d_G_nodeAmong_35 rfl ?_
      refine et_ialn d_G_nodeAmong_37 h6 (by omega) (by first | decide | omega) ?_
      refine et_iload d_G_nodeAmong_38 rfl ?_
      refine et_icmp_ne (tgt := 46) d_G_nodeAmong_40 (by decide) (fun q3 => ?_) (fun q3 => ?_)
      · exact nxt (fun z => q3 z.2.2)
      refine et_iload d_G_nodeAmong_43 rfl ?_
      exact et_iret d_G_nodeAmong_45 rfl (Nat.le_of_ble_eq_true rfl) (Nat.le_of_ble_eq_true rfl) ⟨rfl, rfl, Or.inl ⟨i, by omega, ⟨q1, q2, q3⟩, hno, rfl⟩⟩
  refine et_iconst (v := 0) d_G_nodeAmong_0 (by decide) ?_
  refine et_istore (lv' := [_, _, _, _, _, _]) d_G_nodeAmong_1 (by decide) rfl rfl ?_
  exact loop cnt 0 (by omega) (fun j hj => absurd hj (Nat.not_lt_zero j))
set_option maxHeartbeats 4000000 in
set_option maxRecDepth 100000 in
theorem c_G_putNode {sc : et_X} {h : Nat → et_MC} {d n : Nat} {nd cs : Int32} {a4 a5 a6 a7 : Nat → Int32} (h3 : h 3 = .inr (1, [.ref 4, .ref 5, .ref 6, .ref 7, .int nd, .int cs, .ref 8, .ref 9])) (h4 : h 4 = .inl (0, 40, .inl a4)) (h5 : h 5 = .inl (0, 40, .inl a5)) (h6 : h 6 = .inl (0, 40, .inl a6)) (h7 : h 7 = .inl (0, 40, .inl a7)) (i : Nat) (s l r hm : Int32) (hi : i < 40) : et_Cn sc Y_G_putNode d [.ref 3, .int (nI i), .int s, .int l, .int r, .int hm] h n 0 0 (fun r0 h' n' => r0 = .inl none ∧ n' = n ∧ h' = va_up (va_up (va_up (va_up h 4 (.inl (0, 40, .inl (upd a4 i s)))) 5 (.inl (0, 40, .inl (upd a5 i l)))) 6 (.inl (0, 40, .inl (upd a6 i r)))) 7 (.inl (0, 40, .inl (upd a7 i hm)))) := by
  refine et_Cn.of 0 rfl rfl (by decide) mV_G_putNode.1 ?_
  refine et_aload_n (i := 0) d_G_putNode_0 rfl rfl ?_
  refine et_getf (ci := 1) 0 d_G_putNode_1 h3 rfl in_G (by decide) fl_G_9 rfl ?_
  refine et_iload_n (i := 1) d_G_putNode_4 rfl rfl ?_
  refine et_iload_n (i := 2) d_G_putNode_5 rfl rfl ?_
  refine et_iasn d_G_putNode_6 h4 (by omega) (by first | decide | omega) ?_
  refine et_aload_n (i := 0) d_G_putNode_7 rfl rfl ?_
  refine et_getf (ci := 1) 1 d_G_putNode_8 h3 rfl in_G (by decide) fl_G_15 rfl ?_
  refine et_iload_n (i := 1) d_G_putNode_11 rfl rfl ?_
  refine et_iload_n (i := 3) d_G_putNode_12 rfl rfl ?_
  refine et_iasn d_G_putNode_13 h5 (by omega) (by first | decide | omega) ?_
  refine et_aload_n (i := 0) d_G_putNode_14 rfl rfl ?_
  refine et_getf (ci := 1) 2 d_G_putNode_15 h3 rfl in_G (by decide) fl_G_18 rfl ?_
  refine et_iload_n (i := 1) d_G_putNode_18 rfl rfl ?_
  refine et_iload d_G_putNode_19 rfl ?_
  refine et_iasn d_G_putNode_21 h6 (by omega) (by first | decide | omega) ?_
  refine et_aload_n (i := 0) d_G_putNode_22 rfl rfl ?_
  refine et_getf (ci := 1) 3 d_G_putNode_23 h3 rfl in_G (by decide) fl_G_21 rfl ?_
  refine et_iload_n (i := 1) d_G_putNode_26 rfl rfl ?_
  refine et_iload d_G_putNode_27 rfl ?_
  refine et_iasn d_G_putNode_29 h7 (by omega) (by first | decide | omega) ?_
  exact et_vret d_G_putNode_30 rfl (Nat.le_of_ble_eq_true rfl) (Nat.le_of_ble_eq_true rfl) ⟨rfl, rfl, rfl⟩
set_option maxHeartbeats 4000000 in
set_option maxRecDepth 100000 in
theorem c_G_homeOf {sc : et_X} {h : Nat → et_MC} {d n : Nat} {x : gx} (gw : Bool) (s : Int32) (l r : Nat) (ok : gOk 40 x.1) (hl : l ≤ gC x.1) (hr : r ≤ gC x.1) (hg : et_gh x h) : et_Cn sc Y_G_homeOf (d + 1) [.ref 3, .int s, .int (eI l), .int (eI r), .int (bI gw)] h n 0 0 (fun r0 h' n' => n' = n ∧ et_g9 h h' ∧ ((∃ c x', gHome gw 40 x s l r = some (c, x') ∧ r0 = .inl (some (.int (nI c))) ∧ et_gh x' h') ∨ (gHome gw 40 x s l r = none ∧ r0 = .inl (some (.int (-1))) ∧ h' = h))) := by
  refine et_Cn.of 1 rfl rfl (by decide) mV_G_homeOf.1 ?_
  obtain ⟨a4, a5, a6, a7, a8, a9, h3, h4, h5, h6, h7, h8, h9, hA, hN⟩ := hg
  obtain ⟨o1, o2, o3⟩ := ok
  have key : ∀ k, k < gN x.1 → ((a4 k = s ∧ a5 k = eI l ∧ a6 k = eI r) ↔ gIs x.1 s l r k) := by
    intro k hk
    obtain ⟨e1, e2, e3, -⟩ := hA k hk
    obtain ⟨b1, b2, b3⟩ := o3 k hk
    rw [e1, e2, e3, eI_eq (by omega) (by omega), eI_eq (by omega) (by omega)]
  refine et_aload_n (i := 0) d_G_homeOf_0 rfl rfl ?_
  refine et_aload_n (i := 0) d_G_homeOf_1 rfl rfl ?_
  refine et_getf (ci := 1) 4 d_G_homeOf_2 h3 rfl in_G (by decide) fl_G_24 rfl ?_
  refine et_iload_n (i := 1) d_G_homeOf_5 rfl rfl ?_
  refine et_iload_n (i := 2) d_G_homeOf_6 rfl rfl ?_
  refine et_iload_n (i := 3) d_G_homeOf_7 rfl rfl ?_
  refine et_invV mV_G_nodeAmong (As := [_, _, _, _]) rfl d_G_homeOf_8 lk_G_37 len_G_nodeAmong h3 rfl (Nat.le_of_ble_eq_true rfl) (c_G_nodeAmong (d := d) h3 h4 h5 h6 (gN x.1) s (eI l) (eI r) o1) (Nat.le_refl _) (Nat.le_of_ble_eq_true rfl) (Nat.le_of_ble_eq_true rfl) (fun v h' n' hp => ?_) (fun y h' n' hp => by rcases hp.2.2 with ⟨k, -, -, -, e⟩ | ⟨-, e⟩ <;> cases e)
  obtain ⟨hn2, hh2, hres⟩ := hp
  subst hh2
  replace hn2 := hn2.symm
  subst hn2
  rcases hres with ⟨k, hk, hm, hno, hv⟩ | ⟨hno, hv⟩
  · cases hv
    refine et_istore (lv' := [_, _, _, _, _, _]) d_G_homeOf_11 (by decide) rfl rfl ?_
    refine et_iload d_G_homeOf_13 rfl ?_
    refine et_iconst (v := (-1)) d_G_homeOf_15 (by decide) ?_
    refine et_icmp_eq (tgt := 27) d_G_homeOf_16 (by decide) (fun q => absurd q (eI_ns (by omega))) (fun _ => ?_)
    refine et_aload_n (i := 0) d_G_homeOf_19 rfl rfl ?_
    refine et_getf (ci := 1) 3 d_G_homeOf_20 h3 rfl in_G (by decide) fl_G_21 rfl ?_
    refine et_iload d_G_homeOf_23 rfl ?_
    refine et_ialn d_G_homeOf_25 h7 (by omega) (by first | decide | omega) ?_
    have hf : gFind x.1 s l r = some (gH x.1 k) := gFindN_some ((key k hk).mp hm) (fun i hi z => hno i hi ((key i (by omega)).mpr z)) hk
    have hH : gHome gw 40 x s l r = some (gH x.1 k, x) := by simp [gHome, hf]
    refine et_iret d_G_homeOf_26 rfl (Nat.le_refl _) (Nat.le_refl _) ⟨rfl, fun _ _ => rfl, Or.inl ⟨_, _, hH, ?_, a4, a5, a6, a7, a8, a9, h3, h4, h5, h6, h7, h8, h9, hA, hN⟩⟩
    rw [(hA k hk).2.2.2]
  · cases hv
    have hf : gFind x.1 s l r = none := gFindN_none.mpr (fun j hj z => hno j hj ((key j hj).mpr z))
    refine et_istore (lv' := [_, _, _, _, _, _]) d_G_homeOf_11 (by decide) rfl rfl ?_
    refine et_iload d_G_homeOf_13 rfl ?_
    refine et_iconst (v := (-1)) d_G_homeOf_15 (by decide) ?_
    refine et_icmp_eq (tgt := 27) d_G_homeOf_16 (by decide) (fun _ => ?_) (fun q => absurd rfl q)
    refine et_iload d_G_homeOf_27 rfl ?_
    cases gw with
    | false =>
      refine et_if_eq (tgt := 41) d_G_homeOf_29 (by decide) (fun _ => ?_) (fun q => absurd rfl q)
      refine et_iconst (v := (-1)) d_G_homeOf_41 (by decide) ?_
      exact et_iret d_G_homeOf_42 rfl (Nat.le_of_ble_eq_true rfl) (Nat.le_of_ble_eq_true rfl) ⟨rfl, fun _ _ => rfl, Or.inr ⟨by simp [gHome, hf], rfl, rfl⟩⟩
    | true =>
      refine et_if_eq (tgt := 41) d_G_homeOf_29 (by decide) (fun q => absurd q (by decide)) (fun _ => ?_)
      refine et_aload_n (i := 0) d_G_homeOf_32 rfl rfl ?_
      refine et_getf (ci := 1) 4 d_G_homeOf_33 h3 rfl in_G (by decide) fl_G_24 rfl ?_
      refine et_bipush (v := 40) d_G_homeOf_36 (by decide) ?_
      refine et_icmp_lt (tgt := 43) d_G_homeOf_38 (by decide) (fun q => ?_) (fun q => ?_)
      rotate_left
      · have q2 : 40 ≤ gN x.1 := Nat.not_lt.mp fun z => q (nI_lt (b := 40) z (by decide))
        refine et_iconst (v := (-1)) d_G_homeOf_41 (by decide) ?_
        exact et_iret d_G_homeOf_42 rfl (Nat.le_of_ble_eq_true rfl) (Nat.le_of_ble_eq_true rfl) ⟨rfl, fun _ _ => rfl, Or.inr ⟨by simp [gHome, hf, q2], rfl, rfl⟩⟩
      have q2 : gN x.1 < 40 := (nI_ltI (by omega) (by decide)).mp (show nI (gN x.1) < nI 40 from q)
      have c2 : gC x.1 < 40 := by omega
      refine et_aload_n (i := 0) d_G_homeOf_43 rfl rfl ?_
      refine et_aload_n (i := 0) d_G_homeOf_44 rfl rfl ?_
      refine et_getf (ci := 1) 4 d_G_homeOf_45 h3 rfl in_G (by decide) fl_G_24 rfl ?_
      refine et_iload_n (i := 1) d_G_homeOf_48 rfl rfl ?_
      refine et_iload_n (i := 2) d_G_homeOf_49 rfl rfl ?_
      refine et_iload_n (i := 3) d_G_homeOf_50 rfl rfl ?_
      refine et_aload_n (i := 0) d_G_homeOf_51 rfl rfl ?_
      refine et_getf (ci := 1) 5 d_G_homeOf_52 h3 rfl in_G (by decide) fl_G_28 rfl ?_
      refine et_invV mV_G_putNode (As := [_, _, _, _, _]) rfl d_G_homeOf_55 lk_G_41 len_G_putNode h3 rfl (Nat.le_of_ble_eq_true rfl) (c_G_putNode (d := d) h3 h4 h5 h6 h7 (gN x.1) s (eI l) (eI r) (nI (gC x.1)) q2) (Nat.le_refl _) (Nat.le_of_ble_eq_true rfl) (Nat.le_of_ble_eq_true rfl) (fun v h' n' hp => ?_) (fun x h' n' hp => by cases hp.1)
      obtain ⟨hv, hn2, hh2⟩ := hp
      cases hv
      subst hh2
      replace hn2 := hn2.symm
      subst hn2
      refine et_aload_n (i := 0) d_G_homeOf_58 rfl rfl ?_
      refine et_dup d_G_homeOf_59 rfl ?_
      refine et_getf (ci := 1) 4 d_G_homeOf_60 h3 rfl in_G (by decide) fl_G_24 rfl ?_
      refine et_iconst (v := 1) d_G_homeOf_63 (by decide) ?_
      refine et_iadd d_G_homeOf_64 ?_
      refine et_putf (ci := 1) 4 d_G_homeOf_65 h3 rfl in_G ty_G nm_G (by decide) fl_G_24 rfl rfl (fun _ => rfl) (fun _ => rfl) (Nat.le_of_ble_eq_true rfl) (fs' := [_, _, _, _, _, _, _, _]) rfl ?_
      refine et_aload_n (i := 0) d_G_homeOf_68 rfl rfl ?_
      refine et_getf (ci := 1) 6 d_G_homeOf_69 rfl rfl in_G (by decide) fl_G_31 rfl ?_
      refine et_aload_n (i := 0) d_G_homeOf_72 rfl rfl ?_
      refine et_getf (ci := 1) 5 d_G_homeOf_73 rfl rfl in_G (by decide) fl_G_28 rfl ?_
      refine et_aload_n (i := 0) d_G_homeOf_76 rfl rfl ?_
      refine et_getf (ci := 1) 5 d_G_homeOf_77 rfl rfl in_G (by decide) fl_G_28 rfl ?_
      refine et_iasn d_G_homeOf_80 h8 (by omega) (by first | decide | omega) ?_
      refine et_aload_n (i := 0) d_G_homeOf_81 rfl rfl ?_
      refine et_dup d_G_homeOf_82 rfl ?_
      refine et_getf (ci := 1) 5 d_G_homeOf_83 rfl rfl in_G (by decide) fl_G_28 rfl ?_
      refine et_iconst (v := 1) d_G_homeOf_86 (by decide) ?_
      refine et_iadd d_G_homeOf_87 ?_
      refine et_putf (ci := 1) 5 d_G_homeOf_88 rfl rfl in_G ty_G nm_G (by decide) fl_G_28 rfl rfl (fun _ => rfl) (fun _ => rfl) (Nat.le_of_ble_eq_true rfl) (fs' := [_, _, _, _, _, _, _, _]) rfl ?_
      refine et_aload_n (i := 0) d_G_homeOf_91 rfl rfl ?_
      refine et_getf (ci := 1) 5 d_G_homeOf_92 rfl rfl in_G (by decide) fl_G_28 rfl ?_
      refine et_iconst (v := 1) d_G_homeOf_95 (by decide) ?_
      refine et_isub d_G_homeOf_96 ?_
      have hH : gHome true 40 x s l r = some (gC x.1, gAdd x s l r) := by simp [gHome, hf, q2]
      rw [show nI (gC x.1) + 1 - 1 = nI (gC x.1) by rw [nI_1, nI_pred]]
      refine et_iret d_G_homeOf_97 rfl (Nat.le_refl _) (Nat.le_refl _) ⟨rfl, fun k hk => ?_, Or.inl ⟨_, _, hH, rfl, _, _, _, _, _, _, ?_, rfl, rfl, rfl, rfl, rfl, h9, fun k hk => ?_, fun c hc => ?_⟩⟩
      · simp [va_up, show k ≠ 3 by omega, show k ≠ 4 by omega, show k ≠ 5 by omega, show k ≠ 6 by omega, show k ≠ 7 by omega, show k ≠ 8 by omega]
      · simp [va_up, gAdd, nI_1]
      · have hk' : k < gN x.1 + 1 := hk
        by_cases e : k = gN x.1
        · subst e
          exact ⟨by rw [pk_us]; exact (gUp_s (gS x.1) _ s).symm, by rw [pk_us]; exact congrArg eI (gUp_s (gL x.1) _ l).symm, by rw [pk_us]; exact congrArg eI (gUp_s (gR x.1) _ r).symm, by rw [pk_us]; exact congrArg nI (gUp_s (gH x.1) _ _).symm⟩
        · obtain ⟨e1, e2, e3, e4⟩ := hA k (by omega)
          exact ⟨by rw [pk_un e, e1]; exact (gUp_n (gS x.1) s e).symm, by rw [pk_un e, e2]; exact congrArg eI (gUp_n (gL x.1) l e).symm, by rw [pk_un e, e3]; exact congrArg eI (gUp_n (gR x.1) r e).symm, by rw [pk_un e, e4]; exact congrArg nI (gUp_n (gH x.1) _ e).symm⟩
      · have hc' : c < gC x.1 + 1 := hc
        by_cases e : c = gC x.1
        · subst e
          simp [gAdd, gUp_s, pk_us]
        · simp [gAdd, gUp_n _ _ e, pk_un e, hN c (by omega)]
