theorem et_w4 {a b c o3 : Option Value} : ∀ (j : Nat) (v : Value), ([a, b, c, none] : List (Option Value))[j]? = some (some v) → ([a, b, c, o3] : List (Option Value))[j]? = some (some v)
  | 0, _, h => h
  | 1, _, h => h
  | 2, _, h => h
  | 3, _, h => by simp at h
  | j + 4, _, h => by simp at h
/-- the nodes that were kept, and no others -/
def gCut (y : gx) (k : Nat) : gx := ((gS y.1, gL y.1, gR y.1, gH y.1, k, gC y.1), y.2)
set_option maxHeartbeats 4000000 in
set_option maxRecDepth 100000 in
theorem c_G_mergeTwins {sc : et_X} {h : Nat → et_MC} {d n : Nat} {x : gx} (ok : gBd 40 x.1) (nok : nOk x) (nid : nId x) (hg : et_gh x h) : et_Cn sc Y_G_mergeTwins (d + 1) [.ref 3] h n 0 0 (fun r h' n' => n' = n ∧ et_g9 h h' ∧ ∃ k y, mtI x (gN x.1) k y ∧ et_gh (gCut y k) h' ∧ r = .inl (some (.int (if k < gN x.1 then 1 else 0)))) := by
  refine et_Cn.of 3 rfl rfl (by decide) mV_G_mergeTwins.1 ?_
  have o1 := ok.1
  have o2 := ok.2.1
  have loop : ∀ (t i k : Nat) (y : gx) (hh : Nat → et_MC), i + t = gN x.1 → mtI x i k y → et_gh y hh → et_g9 h hh → et_M sc Y_G_mergeTwins (d + 1) 0 0 (fun r h' n' => n' = n ∧ et_g9 h h' ∧ ∃ k y, mtI x (gN x.1) k y ∧ et_gh (gCut y k) h' ∧ r = .inl (some (.int (if k < gN x.1 then 1 else 0)))) 4 [some (.ref 3), some (.int (nI k)), some (.int (nI i)), none] [] hh n 0 0 := by
    intro t
    induction t with
    | zero =>
      intro i k y hh hi I hg1 fr
      obtain ⟨a4, a5, a6, a7, a8, a9, h3, h4, h5, h6, h7, h8, h9, hA, hN⟩ := hg1
      have eN := I.1
      have kl := I.2.2.1
      obtain rfl : i = gN x.1 := by omega
      rw [eN] at h3
      refine et_iload_n (i := 2) d_G_mergeTwins_4 rfl rfl ?_
      refine et_aload_n (i := 0) d_G_mergeTwins_5 rfl rfl ?_
      refine et_getf (ci := 1) 4 d_G_mergeTwins_6 h3 rfl in_G (by decide) fl_G_24 rfl ?_
      refine et_icmp_ge (tgt := 99) d_G_mergeTwins_9 (by decide) (fun _ => ?_) (fun q => absurd (nI_le (Nat.le_refl _) (by omega)) q)
      refine et_iload_n (i := 1) d_G_mergeTwins_99 rfl rfl ?_
      refine et_aload_n (i := 0) d_G_mergeTwins_100 rfl rfl ?_
      refine et_getf (ci := 1) 4 d_G_mergeTwins_101 h3 rfl in_G (by decide) fl_G_24 rfl ?_
      refine et_icmp_ge (tgt := 111) d_G_mergeTwins_104 (by decide) (fun q => ?_) (fun q => ?_)
      · have q2 : ¬ k < gN x.1 := fun z => absurd q (nI_ge z (by omega))
        refine et_iconst (v := 0) d_G_mergeTwins_111 (by decide) ?_
        refine et_istore_n (i := 2) (lv' := [_, _, _, _]) d_G_mergeTwins_112 rfl (by decide) rfl rfl ?_
        refine et_aload_n (i := 0) d_G_mergeTwins_113 rfl rfl ?_
        refine et_iload_n (i := 1) d_G_mergeTwins_114 rfl rfl ?_
        refine et_putf (ci := 1) 4 d_G_mergeTwins_115 h3 rfl in_G ty_G nm_G (by decide) fl_G_24 rfl rfl (fun _ => rfl) (fun _ => rfl) (Nat.le_of_ble_eq_true rfl) (fs' := [_, _, _, _, _, _, _, _]) rfl ?_
        refine et_iload_n (i := 2) d_G_mergeTwins_118 rfl rfl ?_
        exact et_zret d_G_mergeTwins_119 rfl rfl (Nat.le_of_ble_eq_true rfl) (Nat.le_of_ble_eq_true rfl) ⟨rfl, fun q hq => by simp [va_up, show q ≠ 3 by omega, fr q hq], k, y, I, ⟨a4, a5, a6, a7, a8, a9, rfl, h4, h5, h6, h7, h8, h9, fun q hq => hA q (by have : q < k := hq; omega), hN⟩, by rw [if_neg q2]⟩
      · have q2 : k < gN x.1 := Nat.not_le.mp fun z => q (nI_le z (by omega))
        refine et_iconst (v := 1) d_G_mergeTwins_107 (by decide) ?_
        refine et_goto (tgt := 112) d_G_mergeTwins_108 (by decide) ?_
        refine et_istore_n (i := 2) (lv' := [_, _, _, _]) d_G_mergeTwins_112 rfl (by decide) rfl rfl ?_
        refine et_aload_n (i := 0) d_G_mergeTwins_113 rfl rfl ?_
        refine et_iload_n (i := 1) d_G_mergeTwins_114 rfl rfl ?_
        refine et_putf (ci := 1) 4 d_G_mergeTwins_115 h3 rfl in_G ty_G nm_G (by decide) fl_G_24 rfl rfl (fun _ => rfl) (fun _ => rfl) (Nat.le_of_ble_eq_true rfl) (fs' := [_, _, _, _, _, _, _, _]) rfl ?_
        refine et_iload_n (i := 2) d_G_mergeTwins_118 rfl rfl ?_
        exact et_zret d_G_mergeTwins_119 rfl rfl (Nat.le_of_ble_eq_true rfl) (Nat.le_of_ble_eq_true rfl) ⟨rfl, fun q hq => by simp [va_up, show q ≠ 3 by omega, fr q hq], k, y, I, ⟨a4, a5, a6, a7, a8, a9, rfl, h4, h5, h6, h7, h8, h9, fun q hq => hA q (by have : q < k := hq; omega), hN⟩, by rw [if_pos q2]⟩
    | succ t ih =>
      intro i k y hh hi I hg1 fr
      obtain ⟨a4, a5, a6, a7, a8, a9, h3, h4, h5, h6, h7, h8, h9, hA, hN⟩ := id hg1
      have eN := I.1
      have eC := I.2.1
      have kl := I.2.2.1
      have hy : ∀ j, j < k ∨ j = i → gL y.1 j ≤ gC x.1 ∧ gR y.1 j ≤ gC x.1 ∧ gH y.1 j < gC x.1 := by
        intro j hj
        rcases hj with hj | hj
        · obtain ⟨q, q1, q2, q3⟩ := I.2.2.2.2.1 j hj
          rw [q2.2.1, q2.2.2, q3]
          obtain ⟨b1, b2, b3⟩ := ok.2.2 q (by omega)
          exact ⟨b2, b3, b1⟩
        · subst hj
          obtain ⟨q2, q3⟩ := I.2.2.2.1 j (Nat.le_refl _) (by omega)
          rw [q2.2.1, q2.2.2, q3]
          obtain ⟨b1, b2, b3⟩ := ok.2.2 j (by omega)
          exact ⟨b2, b3, b1⟩
      obtain ⟨z1, z2, z3⟩ := hy i (Or.inr rfl)
      obtain ⟨e1, e2, e3, e4⟩ := hA i (by omega)
      have key : ∀ j, j < k → ((a4 j = a4 i ∧ a5 j = a5 i ∧ a6 j = a6 i) ↔ gTw y.1 j y.1 i) := by
        intro j hj
        obtain ⟨f1, f2, f3, -⟩ := hA j (by omega)
        obtain ⟨w1, w2, -⟩ := hy j (Or.inl hj)
        rw [f1, f2, f3, e1, e2, e3, eI_eq (by omega) (by omega), eI_eq (by omega) (by omega)]
        rfl
      have nxt : ∀ (k' : Nat) (y' : gx) (h2 : Nat → et_MC) (o3 : Option Value), mtI x (i + 1) k' y' → et_gh y' h2 → et_g9 h h2 → et_M sc Y_G_mergeTwins (d + 1) 0 0 (fun r h' n' => n' = n ∧ et_g9 h h' ∧ ∃ k y, mtI x (gN x.1) k y ∧ et_gh (gCut y k) h' ∧ r = .inl (some (.int (if k < gN x.1 then 1 else 0)))) 93 [some (.ref 3), some (.int (nI k')), some (.int (nI i)), o3] [] h2 n 0 0 := by
        intro k' y' h2 o3 I' g' f'
        refine et_iinc (lv' := [_, _, _, _]) d_G_mergeTwins_93 rfl (v := nI (i + 1)) (nI_1 i) (by decide) rfl rfl ?_
        refine et_goto (tgt := 4) d_G_mergeTwins_96 (by decide) ?_
        exact et_weak et_w4 (ih (i + 1) k' y' h2 (by omega) I' g' f')
      refine et_iload_n (i := 2) d_G_mergeTwins_4 rfl rfl ?_
      refine et_aload_n (i := 0) d_G_mergeTwins_5 rfl rfl ?_
      refine et_getf (ci := 1) 4 d_G_mergeTwins_6 h3 rfl in_G (by decide) fl_G_24 rfl ?_
      rw [eN]
      refine et_icmp_ge (tgt := 99) d_G_mergeTwins_9 (by decide) (fun q => absurd q (nI_ge (by omega) (by omega))) (fun _ => ?_)
      refine et_aload_n (i := 0) d_G_mergeTwins_12 rfl rfl ?_
      refine et_iload_n (i := 1) d_G_mergeTwins_13 rfl rfl ?_
      refine et_aload_n (i := 0) d_G_mergeTwins_14 rfl rfl ?_
      refine et_getf (ci := 1) 0 d_G_mergeTwins_15 h3 rfl in_G (by decide) fl_G_9 rfl ?_
      refine et_iload_n (i := 2) d_G_mergeTwins_18 rfl rfl ?_
      refine et_ialn d_G_mergeTwins_19 h4 (by omega) (by first | decide | omega) ?_
      refine et_aload_n (i := 0) d_G_mergeTwins_20 rfl rfl ?_
      refine et_getf (ci := 1) 1 d_G_mergeTwins_21 h3 rfl in_G (by decide) fl_G_15 rfl ?_
      refine et_iload_n (i := 2) d_G_mergeTwins_24 rfl rfl ?_
      refine et_ialn d_G_mergeTwins_25 h5 (by omega) (by first | decide | omega) ?_
      refine et_aload_n (i := 0) d_G_mergeTwins_26 rfl rfl ?_
      refine et_getf (ci := 1) 2 d_G_mergeTwins_27 h3 rfl in_G (by decide) fl_G_18 rfl ?_
      refine et_iload_n (i := 2) d_G_mergeTwins_30 rfl rfl ?_
      refine et_ialn d_G_mergeTwins_31 h6 (by omega) (by first | decide | omega) ?_
      refine et_invV mV_G_nodeAmong (As := [_, _, _, _]) rfl d_G_mergeTwins_32 lk_G_37 len_G_nodeAmong h3 rfl (Nat.le_of_ble_eq_true rfl) (c_G_nodeAmong (d := d) h3 h4 h5 h6 k (a4 i) (a5 i) (a6 i) (by omega)) (Nat.le_refl _) (Nat.le_of_ble_eq_true rfl) (Nat.le_of_ble_eq_true rfl) (fun v h' n' hp => ?_) (fun y h' n' hp => by rcases hp.2.2 with ⟨k, -, -, -, e⟩ | ⟨-, e⟩ <;> cases e)
      obtain ⟨hn2, hh2, hres⟩ := hp
      subst hh2
      replace hn2 := hn2.symm
      subst hn2
      rcases hres with ⟨q, hq, hm, -, hv⟩ | ⟨hno, hv⟩
      · cases hv
        refine et_istore_n (i := 3) (lv' := [_, _, _, _]) d_G_mergeTwins_35 rfl (by decide) rfl rfl ?_
        refine et_iload_n (i := 3) d_G_mergeTwins_36 rfl rfl ?_
        refine et_iconst (v := (-1)) d_G_mergeTwins_37 (by decide) ?_
        refine et_icmp_ne (tgt := 76) d_G_mergeTwins_38 (by decide) (fun _ => ?_) (fun q => absurd q (eI_ns (by omega)))
        refine et_aload_n (i := 0) d_G_mergeTwins_76 rfl rfl ?_
        refine et_aload_n (i := 0) d_G_mergeTwins_77 rfl rfl ?_
        refine et_getf (ci := 1) 3 d_G_mergeTwins_78 h3 rfl in_G (by decide) fl_G_21 rfl ?_
        refine et_iload_n (i := 3) d_G_mergeTwins_81 rfl rfl ?_
        refine et_ialn d_G_mergeTwins_82 h7 (by omega) (by first | decide | omega) ?_
        refine et_aload_n (i := 0) d_G_mergeTwins_83 rfl rfl ?_
        refine et_getf (ci := 1) 3 d_G_mergeTwins_84 h3 rfl in_G (by decide) fl_G_21 rfl ?_
        refine et_iload_n (i := 2) d_G_mergeTwins_87 rfl rfl ?_
        refine et_ialn d_G_mergeTwins_88 h7 (by omega) (by first | decide | omega) ?_
        rw [(hA q (by omega)).2.2.2, e4]
        refine et_invV mV_G_join (As := [_, _]) rfl d_G_mergeTwins_89 lk_G_58 len_G_join h3 rfl (Nat.le_of_ble_eq_true rfl) (c_G_join (d := d) (gH y.1 q) (gH y.1 i) (by omega) I.2.2.2.2.2.2.2.1 (by rw [eC]; exact (hy q (Or.inl hq)).2.2) (by rw [eC]; exact z3) hg1) (by omega) (Nat.le_of_ble_eq_true rfl) (Nat.le_of_ble_eq_true rfl) (fun v h2 n' hp => ?_) (fun x h' n' hp => by rcases hp.2.2.2 with ⟨-, e⟩ | ⟨-, e⟩ <;> cases e)
        obtain ⟨hn2, fr2, g2, hres⟩ := hp
        replace hn2 := hn2.symm
        subst hn2
        have I2 := mt_join ok I (by omega) hq ((key q hq).mp hm)
        rcases hres with ⟨-, hv⟩ | ⟨-, hv⟩
        · cases hv
          refine et_pop d_G_mergeTwins_92 rfl ?_
          exact nxt k _ h2 _ I2 g2 (fun q hq => (fr2 q hq).trans (fr q hq))
        · cases hv
          refine et_pop d_G_mergeTwins_92 rfl ?_
          exact nxt k _ h2 _ I2 g2 (fun q hq => (fr2 q hq).trans (fr q hq))
      · cases hv
        refine et_istore_n (i := 3) (lv' := [_, _, _, _]) d_G_mergeTwins_35 rfl (by decide) rfl rfl ?_
        refine et_iload_n (i := 3) d_G_mergeTwins_36 rfl rfl ?_
        refine et_iconst (v := (-1)) d_G_mergeTwins_37 (by decide) ?_
        refine et_icmp_ne (tgt := 76) d_G_mergeTwins_38 (by decide) (fun q => absurd rfl q) (fun _ => ?_)
        refine et_aload_n (i := 0) d_G_mergeTwins_41 rfl rfl ?_
        refine et_iload_n (i := 1) d_G_mergeTwins_42 rfl rfl ?_
        refine et_aload_n (i := 0) d_G_mergeTwins_43 rfl rfl ?_
        refine et_getf (ci := 1) 0 d_G_mergeTwins_44 h3 rfl in_G (by decide) fl_G_9 rfl ?_
        refine et_iload_n (i := 2) d_G_mergeTwins_47 rfl rfl ?_
        refine et_ialn d_G_mergeTwins_48 h4 (by omega) (by first | decide | omega) ?_
        refine et_aload_n (i := 0) d_G_mergeTwins_49 rfl rfl ?_
        refine et_getf (ci := 1) 1 d_G_mergeTwins_50 h3 rfl in_G (by decide) fl_G_15 rfl ?_
        refine et_iload_n (i := 2) d_G_mergeTwins_53 rfl rfl ?_
        refine et_ialn d_G_mergeTwins_54 h5 (by omega) (by first | decide | omega) ?_
        refine et_aload_n (i := 0) d_G_mergeTwins_55 rfl rfl ?_
        refine et_getf (ci := 1) 2 d_G_mergeTwins_56 h3 rfl in_G (by decide) fl_G_18 rfl ?_
        refine et_iload_n (i := 2) d_G_mergeTwins_59 rfl rfl ?_
        refine et_ialn d_G_mergeTwins_60 h6 (by omega) (by first | decide | omega) ?_
        refine et_aload_n (i := 0) d_G_mergeTwins_61 rfl rfl ?_
        refine et_getf (ci := 1) 3 d_G_mergeTwins_62 h3 rfl in_G (by decide) fl_G_21 rfl ?_
        refine et_iload_n (i := 2) d_G_mergeTwins_65 rfl rfl ?_
        refine et_ialn d_G_mergeTwins_66 h7 (by omega) (by first | decide | omega) ?_
        refine et_invV mV_G_putNode (As := [_, _, _, _, _]) rfl d_G_mergeTwins_67 lk_G_41 len_G_putNode h3 rfl (Nat.le_of_ble_eq_true rfl) (c_G_putNode (d := d) h3 h4 h5 h6 h7 k (a4 i) (a5 i) (a6 i) (a7 i) (by omega)) (Nat.le_refl _) (Nat.le_of_ble_eq_true rfl) (Nat.le_of_ble_eq_true rfl) (fun v h' n' hp => ?_) (fun x h' n' hp => by cases hp.1)
        obtain ⟨hv, hn2, hh2⟩ := hp
        cases hv
        subst hh2
        replace hn2 := hn2.symm
        subst hn2
        refine et_iinc (lv' := [_, _, _, _]) d_G_mergeTwins_70 rfl (v := nI (k + 1)) (nI_1 k) (by decide) rfl rfl ?_
        refine et_goto (tgt := 93) d_G_mergeTwins_73 (by decide) ?_
        refine nxt (k + 1) (gPut y k i) _ _ (mt_put I (by omega) (fun j hj z => hno j hj ((key j hj).mpr z))) ⟨_, _, _, _, a8, a9, h3, rfl, rfl, rfl, rfl, h8, h9, fun j hj => ?_, hN⟩ (fun q hq => by simp [va_up, show q ≠ 4 by omega, show q ≠ 5 by omega, show q ≠ 6 by omega, show q ≠ 7 by omega, fr q hq])
        have hj' : j < gN y.1 := hj
        by_cases e : j = k
        · subst e
          exact ⟨by rw [pk_us, e1]; exact (gUp_s (gS y.1) _ _).symm, by rw [pk_us, e2]; exact congrArg eI (gUp_s (gL y.1) _ _).symm, by rw [pk_us, e3]; exact congrArg eI (gUp_s (gR y.1) _ _).symm, by rw [pk_us, e4]; exact congrArg nI (gUp_s (gH y.1) _ _).symm⟩
        · obtain ⟨f1, f2, f3, f4⟩ := hA j hj'
          exact ⟨by rw [pk_un e, f1]; exact (gUp_n (gS y.1) _ e).symm, by rw [pk_un e, f2]; exact congrArg eI (gUp_n (gL y.1) _ e).symm, by rw [pk_un e, f3]; exact congrArg eI (gUp_n (gR y.1) _ e).symm, by rw [pk_un e, f4]; exact congrArg nI (gUp_n (gH y.1) _ e).symm⟩
  refine et_iconst (v := 0) d_G_mergeTwins_0 (by decide) ?_
  refine et_istore_n (i := 1) (lv' := [_, _, _, _]) d_G_mergeTwins_1 rfl (by decide) rfl rfl ?_
  refine et_iconst (v := 0) d_G_mergeTwins_2 (by decide) ?_
  refine et_istore_n (i := 2) (lv' := [_, _, _, _]) d_G_mergeTwins_3 rfl (by decide) rfl rfl ?_
  exact loop (gN x.1) 0 0 x h (by omega) (mt_0 nok nid) hg (fun _ _ => rfl)
