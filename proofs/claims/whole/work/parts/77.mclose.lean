set_option maxHeartbeats 4000000 in
set_option maxRecDepth 100000 in
theorem c_M_close {sc : et_X} {h : Nat → et_MC} {d n : Nat} {th le a_ wr en al se ru rs : Int32} {dc ds : Int64} {x0 : gx} {P : Nat → Nat → Prop} {b73 : Nat → Int32} (u : Bool) (ok : gBd 40 x0.1) (sur : gSur x0.1) (nok : nOk x0) (nid : nId x0) (hP1 : ∀ a b, a < gC x0.1 → b < gC x0.1 → x0.2 a = x0.2 b → gCong x0.1 P a b) (hP2 : ∀ a b, P a b → a < gC x0.1 ∧ b < gC x0.1 ∧ x0.2 a = x0.2 b) (h64 : h 64 = et_Mo th le a_ wr en al se ru (nI (gN x0.1)) (nI (gC x0.1)) (bI u) rs dc ds) (hg : et_mg x0 h) (h73 : h 73 = .inl (0, 104, .inl b73)) : et_Cn sc Y_M_close (d + 1) [.ref 64] h n 0 0 (fun r h' n' => r = .inl none ∧ n' = n ∧ (∀ k, (k < 64 ∨ (64 < k ∧ k < 68) ∨ 73 < k) → h' k = h k) ∧ ∃ (g' : gr) (u' : Bool), gQuot x0.1 P g' ∧ (u = true → u' = true) ∧ ((∀ i j, i < j → j < gN x0.1 → ¬ mtw x0 i j) → u' = u) ∧ h' 64 = et_Mo th le a_ wr en al se ru (nI (gN g')) (nI (gC g')) (bI u') rs dc ds ∧ et_mg (gI g') h' ∧ ∃ b73, h' 73 = .inl (0, 104, .inl b73)) := by
  refine et_Cn.of 3 rfl rfl (by decide) mV_M_close.1 ?_
  have go : ∀ (K : Nat) (x : gx) (v : Bool) (hh : Nat → et_MC) (o2 o3 : Option Value), gN x.1 ≤ K → gBd 40 x.1 → stI x0.1 P (gRen x) → hh 64 = et_Mo th le a_ wr en al se ru (nI (gN x.1)) (nI (gC x.1)) (bI v) rs dc ds → et_mg x hh → (∀ k, (k < 64 ∨ (64 < k ∧ k < 68) ∨ 72 < k) → hh k = h k) → (u = true → v = true) → ((∀ i j, i < j → j < gN x0.1 → ¬ mtw x0 i j) → x = x0 ∧ v = u) → et_M sc Y_M_close (d + 1) 0 0 (fun r h' n' => r = .inl none ∧ n' = n ∧ (∀ k, (k < 64 ∨ (64 < k ∧ k < 68) ∨ 73 < k) → h' k = h k) ∧ ∃ (g' : gr) (u' : Bool), gQuot x0.1 P g' ∧ (u = true → u' = true) ∧ ((∀ i j, i < j → j < gN x0.1 → ¬ mtw x0 i j) → u' = u) ∧ h' 64 = et_Mo th le a_ wr en al se ru (nI (gN g')) (nI (gC g')) (bI u') rs dc ds ∧ et_mg (gI g') h' ∧ ∃ b73, h' 73 = .inl (0, 104, .inl b73)) 2 [some (.ref 64), some (.int (1)), o2, o3] [] hh n 0 0 := by
    intro K
    induction K with
    | zero =>
      intro x v hh o2 o3 hK bd S k64 g1 fr u1 u2
      have nok1 : nOk x := S.2.2.2.1
      have hN := bd.1
      have hC := bd.2.1
      obtain ⟨b68, b69, b70, b71, b72, k68, k69, k70, k71, k72, hnode, hname⟩ := id g1
      have fin : ∀ (o2 o3 : Option Value), (∀ i j, i < j → j < gN x.1 → ¬ mtw x i j) → et_M sc Y_M_close (d + 1) 0 0 (fun r h' n' => r = .inl none ∧ n' = n ∧ (∀ k, (k < 64 ∨ (64 < k ∧ k < 68) ∨ 73 < k) → h' k = h k) ∧ ∃ (g' : gr) (u' : Bool), gQuot x0.1 P g' ∧ (u = true → u' = true) ∧ ((∀ i j, i < j → j < gN x0.1 → ¬ mtw x0 i j) → u' = u) ∧ h' 64 = et_Mo th le a_ wr en al se ru (nI (gN g')) (nI (gC g')) (bI u') rs dc ds ∧ et_mg (gI g') h' ∧ ∃ b73, h' 73 = .inl (0, 104, .inl b73)) 2 [some (.ref 64), some (.int (0)), o2, o3] [] hh n 0 0 := by
        intro o2 o3 hno
        refine et_iload_n (i := 1) d_M_close_2 rfl rfl ?_
        refine et_if_eq (tgt := 145) d_M_close_3 (by decide) (fun _ => ?_) (fun q => absurd rfl q)
        refine et_aload_n (i := 0) d_M_close_145 rfl rfl ?_
        refine et_invV mV_M_renumber (As := []) rfl d_M_close_146 lk_M_154 len_M_renumber k64 rfl (Nat.le_of_ble_eq_true rfl) (c_M_renumber (d := d) bd nok1 k64 g1 ((fr 73 (by omega)).trans h73)) (Nat.le_refl _) (Nat.le_of_ble_eq_true rfl) (Nat.le_of_ble_eq_true rfl) (fun v h' n' hp => ?_) (fun x h' n' hp => by cases hp.1)
        obtain ⟨hv, hn2, fr2, q, cnt, p1, p2, p3, p4, p5⟩ := hp
        cases hv
        replace hn2 := hn2.symm
        subst hn2
        exact et_vret d_M_close_149 rfl (Nat.le_refl _) (Nat.le_refl _) ⟨rfl, rfl, fun k hk => (fr2 k (by omega)).trans (fr k (by omega)), _, v, st_quot ok sur S (cl_dis hno) p1, u1, fun z => (u2 z).2, p3, p4, p5⟩
      have found : ∀ (i j : Nat), i < j → j < gN x.1 → mtw x i j → et_M sc Y_M_close (d + 1) 0 0 (fun r h' n' => r = .inl none ∧ n' = n ∧ (∀ k, (k < 64 ∨ (64 < k ∧ k < 68) ∨ 73 < k) → h' k = h k) ∧ ∃ (g' : gr) (u' : Bool), gQuot x0.1 P g' ∧ (u = true → u' = true) ∧ ((∀ i j, i < j → j < gN x0.1 → ¬ mtw x0 i j) → u' = u) ∧ h' 64 = et_Mo th le a_ wr en al se ru (nI (gN g')) (nI (gC g')) (bI u') rs dc ds ∧ et_mg (gI g') h' ∧ ∃ b73, h' 73 = .inl (0, 104, .inl b73)) 104 [some (.ref 64), some (.int (0)), some (.int (nI i)), some (.int (nI j))] [.int 1] hh n 0 0 := by
        intro i j hij hj tw
        omega
      have out10 : ∀ (s i : Nat) (o3 : Option Value), i + s = gN x.1 → (∀ i' j', i' < i → i' < j' → j' < gN x.1 → ¬ mtw x i' j') → et_M sc Y_M_close (d + 1) 0 0 (fun r h' n' => r = .inl none ∧ n' = n ∧ (∀ k, (k < 64 ∨ (64 < k ∧ k < 68) ∨ 73 < k) → h' k = h k) ∧ ∃ (g' : gr) (u' : Bool), gQuot x0.1 P g' ∧ (u = true → u' = true) ∧ ((∀ i j, i < j → j < gN x0.1 → ¬ mtw x0 i j) → u' = u) ∧ h' 64 = et_Mo th le a_ wr en al se ru (nI (gN g')) (nI (gC g')) (bI u') rs dc ds ∧ et_mg (gI g') h' ∧ ∃ b73, h' 73 = .inl (0, 104, .inl b73)) 10 [some (.ref 64), some (.int (0)), some (.int (nI i)), none] [] hh n 0 0 := by
        intro s
        induction s with
        | zero =>
          intro i o3 hi hno
          obtain rfl : i = gN x.1 := by omega
          refine et_iload_n (i := 2) d_M_close_10 rfl rfl ?_
          refine et_aload_n (i := 0) d_M_close_11 rfl rfl ?_
          refine et_getf (ci := 7) 11 d_M_close_12 k64 rfl in_M (by decide) fl_M_119 rfl ?_
          refine et_icmp_ge (tgt := 142) d_M_close_15 (by decide) (fun _ => ?_) (fun q => absurd (nI_le (Nat.le_refl _) (by omega)) q)
          refine et_goto (tgt := 2) d_M_close_142 (by decide) ?_
          exact fin _ _ (fun i j hij hj => hno i j (by omega) hij hj)
        | succ s ihs =>
          intro i o3 hi hno
          obtain ⟨oi1, oi2, oi3⟩ := bd.2.2 i (by omega)
          obtain ⟨ni1, ni2, ni3, ni4⟩ := hnode i (by omega)
          have inn : ∀ (t j : Nat), j + t = gN x.1 → i < j → (∀ j', i < j' → j' < j → ¬ mtw x i j') → et_M sc Y_M_close (d + 1) 0 0 (fun r h' n' => r = .inl none ∧ n' = n ∧ (∀ k, (k < 64 ∨ (64 < k ∧ k < 68) ∨ 73 < k) → h' k = h k) ∧ ∃ (g' : gr) (u' : Bool), gQuot x0.1 P g' ∧ (u = true → u' = true) ∧ ((∀ i j, i < j → j < gN x0.1 → ¬ mtw x0 i j) → u' = u) ∧ h' 64 = et_Mo th le a_ wr en al se ru (nI (gN g')) (nI (gC g')) (bI u') rs dc ds ∧ et_mg (gI g') h' ∧ ∃ b73, h' 73 = .inl (0, 104, .inl b73)) 26 [some (.ref 64), some (.int (0)), some (.int (nI i)), some (.int (nI j))] [] hh n 0 0 := by
            intro t
            induction t with
            | zero =>
              intro j hj hij hno2
              obtain rfl : j = gN x.1 := by omega
              refine et_iload_n (i := 3) d_M_close_26 rfl rfl ?_
              refine et_aload_n (i := 0) d_M_close_27 rfl rfl ?_
              refine et_getf (ci := 7) 11 d_M_close_28 k64 rfl in_M (by decide) fl_M_119 rfl ?_
              refine et_icmp_ge (tgt := 136) d_M_close_31 (by decide) (fun _ => ?_) (fun q => absurd (nI_le (Nat.le_refl _) (by omega)) q)
              refine et_iinc (lv' := [_, _, _, _]) d_M_close_136 rfl (v := nI (i + 1)) (nI_1 i) (by decide) rfl rfl ?_
              refine et_goto (tgt := 10) d_M_close_139 (by decide) ?_
              refine et_weak et_w4a (ihs (i + 1) none (by omega) (fun i' j' a b c => ?_))
              by_cases z : i' = i
              · subst z; exact hno2 j' b c
              · exact hno i' j' (by omega) b c
            | succ t iht =>
              intro j hj hij hno2
              obtain ⟨oj1, oj2, oj3⟩ := bd.2.2 j (by omega)
              obtain ⟨nj1, nj2, nj3, nj4⟩ := hnode j (by omega)
              have ui2 := up_le (C' := gC x.1) nok1 oi2
              have ui3 := up_le (C' := gC x.1) nok1 oi3
              have uj2 := up_le (C' := gC x.1) nok1 oj2
              have uj3 := up_le (C' := gC x.1) nok1 oj3
              have nxt : ¬ mtw x i j → et_M sc Y_M_close (d + 1) 0 0 (fun r h' n' => r = .inl none ∧ n' = n ∧ (∀ k, (k < 64 ∨ (64 < k ∧ k < 68) ∨ 73 < k) → h' k = h k) ∧ ∃ (g' : gr) (u' : Bool), gQuot x0.1 P g' ∧ (u = true → u' = true) ∧ ((∀ i j, i < j → j < gN x0.1 → ¬ mtw x0 i j) → u' = u) ∧ h' 64 = et_Mo th le a_ wr en al se ru (nI (gN g')) (nI (gC g')) (bI u') rs dc ds ∧ et_mg (gI g') h' ∧ ∃ b73, h' 73 = .inl (0, 104, .inl b73)) 103 [some (.ref 64), some (.int (0)), some (.int (nI i)), some (.int (nI j))] [] hh n 0 0 := by
                intro hne
                refine et_iconst (v := 0) d_M_close_103 (by decide) ?_
                refine et_istore_n (i := 1) (lv' := [_, _, _, _]) d_M_close_104 rfl (by decide) rfl rfl ?_
                refine et_iload_n (i := 1) d_M_close_105 rfl rfl ?_
                refine et_if_eq (tgt := 130) d_M_close_106 (by decide) (fun _ => ?_) (fun q => absurd rfl q)
                refine et_iinc (lv' := [_, _, _, _]) d_M_close_130 rfl (v := nI (j + 1)) (nI_1 j) (by decide) rfl rfl ?_
                refine et_goto (tgt := 26) d_M_close_133 (by decide) ?_
                refine iht (j + 1) (by omega) (by omega) (fun j' a b => ?_)
                by_cases z : j' = j
                · subst z; exact hne
                · exact hno2 j' a (by omega)
              refine et_iload_n (i := 3) d_M_close_26 rfl rfl ?_
              refine et_aload_n (i := 0) d_M_close_27 rfl rfl ?_
              refine et_getf (ci := 7) 11 d_M_close_28 k64 rfl in_M (by decide) fl_M_119 rfl ?_
              refine et_icmp_ge (tgt := 136) d_M_close_31 (by decide) (fun q => absurd q (nI_ge (by omega) (by omega))) (fun _ => ?_)
              refine et_iload_n (i := 1) d_M_close_34 rfl rfl ?_
              refine et_if_ne (tgt := 136) d_M_close_35 (by decide) (fun q => absurd rfl q) (fun _ => ?_)
              refine et_aload_n (i := 0) d_M_close_38 rfl rfl ?_
              refine et_getf (ci := 7) 13 d_M_close_39 k64 rfl in_M (by decide) fl_M_23 rfl ?_
              refine et_iload_n (i := 2) d_M_close_42 rfl rfl ?_
              refine et_ialn d_M_close_43 k68 (by omega) (by first | decide | omega) ?_
              refine et_aload_n (i := 0) d_M_close_44 rfl rfl ?_
              refine et_getf (ci := 7) 13 d_M_close_45 k64 rfl in_M (by decide) fl_M_23 rfl ?_
              refine et_iload_n (i := 3) d_M_close_48 rfl rfl ?_
              refine et_ialn d_M_close_49 k68 (by omega) (by first | decide | omega) ?_
              rw [ni1, nj1]
              refine et_icmp_ne (tgt := 103) d_M_close_50 (by decide) (fun q => ?_) (fun q => ?_)
              · exact nxt fun z => q z.1
              have q1 := q
              refine et_aload_n (i := 0) d_M_close_53 rfl rfl ?_
              refine et_aload_n (i := 0) d_M_close_54 rfl rfl ?_
              refine et_getf (ci := 7) 14 d_M_close_55 k64 rfl in_M (by decide) fl_M_26 rfl ?_
              refine et_iload_n (i := 2) d_M_close_58 rfl rfl ?_
              refine et_ialn d_M_close_59 k69 (by omega) (by first | decide | omega) ?_
              rw [ni2]
              refine et_invV mV_M_labelOf (As := [_]) rfl d_M_close_60 lk_M_143 len_M_labelOf k64 rfl (Nat.le_of_ble_eq_true rfl) (c_M_labelOf (d := d) (q := x.2) (C := gC x.1) (gL x.1 i) (by omega) oi2 k64 k72 hname) (Nat.le_refl _) (Nat.le_of_ble_eq_true rfl) (Nat.le_of_ble_eq_true rfl) (fun v h' n' hp => ?_) (fun x h' n' hp => by cases hp.1)
              obtain ⟨hv, hn2, hh2⟩ := hp
              cases hv
              subst hh2
              replace hn2 := hn2.symm
              subst hn2
              refine et_aload_n (i := 0) d_M_close_63 rfl rfl ?_
              refine et_aload_n (i := 0) d_M_close_64 rfl rfl ?_
              refine et_getf (ci := 7) 14 d_M_close_65 k64 rfl in_M (by decide) fl_M_26 rfl ?_
              refine et_iload_n (i := 3) d_M_close_68 rfl rfl ?_
              refine et_ialn d_M_close_69 k69 (by omega) (by first | decide | omega) ?_
              rw [nj2]
              refine et_invV mV_M_labelOf (As := [_]) rfl d_M_close_70 lk_M_143 len_M_labelOf k64 rfl (Nat.le_of_ble_eq_true rfl) (c_M_labelOf (d := d) (q := x.2) (C := gC x.1) (gL x.1 j) (by omega) oj2 k64 k72 hname) (Nat.le_refl _) (Nat.le_of_ble_eq_true rfl) (Nat.le_of_ble_eq_true rfl) (fun v h' n' hp => ?_) (fun x h' n' hp => by cases hp.1)
              obtain ⟨hv, hn2, hh2⟩ := hp
              cases hv
              subst hh2
              replace hn2 := hn2.symm
              subst hn2
              refine et_icmp_ne (tgt := 103) d_M_close_73 (by decide) (fun q => ?_) (fun q => ?_)
              · exact nxt fun z => q (by rw [z.2.1])
              have q2 := (eI_eq (by omega) (by omega)).mp q
              refine et_aload_n (i := 0) d_M_close_76 rfl rfl ?_
              refine et_aload_n (i := 0) d_M_close_77 rfl rfl ?_
              refine et_getf (ci := 7) 15 d_M_close_78 k64 rfl in_M (by decide) fl_M_29 rfl ?_
              refine et_iload_n (i := 2) d_M_close_81 rfl rfl ?_
              refine et_ialn d_M_close_82 k70 (by omega) (by first | decide | omega) ?_
              rw [ni3]
              refine et_invV mV_M_labelOf (As := [_]) rfl d_M_close_83 lk_M_143 len_M_labelOf k64 rfl (Nat.le_of_ble_eq_true rfl) (c_M_labelOf (d := d) (q := x.2) (C := gC x.1) (gR x.1 i) (by omega) oi3 k64 k72 hname) (Nat.le_refl _) (Nat.le_of_ble_eq_true rfl) (Nat.le_of_ble_eq_true rfl) (fun v h' n' hp => ?_) (fun x h' n' hp => by cases hp.1)
              obtain ⟨hv, hn2, hh2⟩ := hp
              cases hv
              subst hh2
              replace hn2 := hn2.symm
              subst hn2
              refine et_aload_n (i := 0) d_M_close_86 rfl rfl ?_
              refine et_aload_n (i := 0) d_M_close_87 rfl rfl ?_
              refine et_getf (ci := 7) 15 d_M_close_88 k64 rfl in_M (by decide) fl_M_29 rfl ?_
              refine et_iload_n (i := 3) d_M_close_91 rfl rfl ?_
              refine et_ialn d_M_close_92 k70 (by omega) (by first | decide | omega) ?_
              rw [nj3]
              refine et_invV mV_M_labelOf (As := [_]) rfl d_M_close_93 lk_M_143 len_M_labelOf k64 rfl (Nat.le_of_ble_eq_true rfl) (c_M_labelOf (d := d) (q := x.2) (C := gC x.1) (gR x.1 j) (by omega) oj3 k64 k72 hname) (Nat.le_refl _) (Nat.le_of_ble_eq_true rfl) (Nat.le_of_ble_eq_true rfl) (fun v h' n' hp => ?_) (fun x h' n' hp => by cases hp.1)
              obtain ⟨hv, hn2, hh2⟩ := hp
              cases hv
              subst hh2
              replace hn2 := hn2.symm
              subst hn2
              refine et_icmp_ne (tgt := 103) d_M_close_96 (by decide) (fun q => ?_) (fun q => ?_)
              · exact nxt fun z => q (by rw [z.2.2])
              have q3 := (eI_eq (by omega) (by omega)).mp q
              refine et_iconst (v := 1) d_M_close_99 (by decide) ?_
              refine et_goto (tgt := 104) d_M_close_100 (by decide) ?_
              exact found i j hij (by omega) ⟨q1, q2, q3⟩
          refine et_iload_n (i := 2) d_M_close_10 rfl rfl ?_
          refine et_aload_n (i := 0) d_M_close_11 rfl rfl ?_
          refine et_getf (ci := 7) 11 d_M_close_12 k64 rfl in_M (by decide) fl_M_119 rfl ?_
          refine et_icmp_ge (tgt := 142) d_M_close_15 (by decide) (fun q => absurd q (nI_ge (by omega) (by omega))) (fun _ => ?_)
          refine et_iload_n (i := 1) d_M_close_18 rfl rfl ?_
          refine et_if_ne (tgt := 142) d_M_close_19 (by decide) (fun q => absurd rfl q) (fun _ => ?_)
          refine et_iload_n (i := 2) d_M_close_22 rfl rfl ?_
          refine et_iconst (v := 1) d_M_close_23 (by decide) ?_
          refine et_iadd d_M_close_24 ?_
          rw [nI_1]
          refine et_istore_n (i := 3) (lv' := [_, _, _, _]) d_M_close_25 rfl (by decide) rfl rfl ?_
          exact inn (gN x.1 - (i + 1)) (i + 1) (by omega) (by omega) (fun j' a b => by omega)
      refine et_iload_n (i := 1) d_M_close_2 rfl rfl ?_
      refine et_if_eq (tgt := 145) d_M_close_3 (by decide) (fun q => absurd q (by decide)) (fun _ => ?_)
      refine et_iconst (v := 0) d_M_close_6 (by decide) ?_
      refine et_istore_n (i := 1) (lv' := [_, _, _, _]) d_M_close_7 rfl (by decide) rfl rfl ?_
      refine et_iconst (v := 0) d_M_close_8 (by decide) ?_
      refine et_istore_n (i := 2) (lv' := [_, _, _, _]) d_M_close_9 rfl (by decide) rfl rfl ?_
      exact et_weak et_w4a (out10 (gN x.1) 0 none (by omega) (fun i' j' a _ _ => absurd a (Nat.not_lt_zero _)))
    | succ K ihK =>
      intro x v hh o2 o3 hK bd S k64 g1 fr u1 u2
      have nok1 : nOk x := S.2.2.2.1
      have hN := bd.1
      have hC := bd.2.1
      obtain ⟨b68, b69, b70, b71, b72, k68, k69, k70, k71, k72, hnode, hname⟩ := id g1
      have fin : ∀ (o2 o3 : Option Value), (∀ i j, i < j → j < gN x.1 → ¬ mtw x i j) → et_M sc Y_M_close (d + 1) 0 0 (fun r h' n' => r = .inl none ∧ n' = n ∧ (∀ k, (k < 64 ∨ (64 < k ∧ k < 68) ∨ 73 < k) → h' k = h k) ∧ ∃ (g' : gr) (u' : Bool), gQuot x0.1 P g' ∧ (u = true → u' = true) ∧ ((∀ i j, i < j → j < gN x0.1 → ¬ mtw x0 i j) → u' = u) ∧ h' 64 = et_Mo th le a_ wr en al se ru (nI (gN g')) (nI (gC g')) (bI u') rs dc ds ∧ et_mg (gI g') h' ∧ ∃ b73, h' 73 = .inl (0, 104, .inl b73)) 2 [some (.ref 64), some (.int (0)), o2, o3] [] hh n 0 0 := by
        intro o2 o3 hno
        refine et_iload_n (i := 1) d_M_close_2 rfl rfl ?_
        refine et_if_eq (tgt := 145) d_M_close_3 (by decide) (fun _ => ?_) (fun q => absurd rfl q)
        refine et_aload_n (i := 0) d_M_close_145 rfl rfl ?_
        refine et_invV mV_M_renumber (As := []) rfl d_M_close_146 lk_M_154 len_M_renumber k64 rfl (Nat.le_of_ble_eq_true rfl) (c_M_renumber (d := d) bd nok1 k64 g1 ((fr 73 (by omega)).trans h73)) (Nat.le_refl _) (Nat.le_of_ble_eq_true rfl) (Nat.le_of_ble_eq_true rfl) (fun v h' n' hp => ?_) (fun x h' n' hp => by cases hp.1)
        obtain ⟨hv, hn2, fr2, q, cnt, p1, p2, p3, p4, p5⟩ := hp
        cases hv
        replace hn2 := hn2.symm
        subst hn2
        exact et_vret d_M_close_149 rfl (Nat.le_refl _) (Nat.le_refl _) ⟨rfl, rfl, fun k hk => (fr2 k (by omega)).trans (fr k (by omega)), _, v, st_quot ok sur S (cl_dis hno) p1, u1, fun z => (u2 z).2, p3, p4, p5⟩
      have found : ∀ (i j : Nat), i < j → j < gN x.1 → mtw x i j → et_M sc Y_M_close (d + 1) 0 0 (fun r h' n' => r = .inl none ∧ n' = n ∧ (∀ k, (k < 64 ∨ (64 < k ∧ k < 68) ∨ 73 < k) → h' k = h k) ∧ ∃ (g' : gr) (u' : Bool), gQuot x0.1 P g' ∧ (u = true → u' = true) ∧ ((∀ i j, i < j → j < gN x0.1 → ¬ mtw x0 i j) → u' = u) ∧ h' 64 = et_Mo th le a_ wr en al se ru (nI (gN g')) (nI (gC g')) (bI u') rs dc ds ∧ et_mg (gI g') h' ∧ ∃ b73, h' 73 = .inl (0, 104, .inl b73)) 104 [some (.ref 64), some (.int (0)), some (.int (nI i)), some (.int (nI j))] [.int 1] hh n 0 0 := by
        intro i j hij hj tw
        obtain ⟨q1, q2⟩ := cl_step ok bd S hj hij tw
        have oi := (bd.2.2 i (by omega)).1
        have oj := (bd.2.2 j hj).1
        refine et_istore_n (i := 1) (lv' := [_, _, _, _]) d_M_close_104 rfl (by decide) rfl rfl ?_
        refine et_iload_n (i := 1) d_M_close_105 rfl rfl ?_
        refine et_if_eq (tgt := 130) d_M_close_106 (by decide) (fun q => absurd q (by decide)) (fun _ => ?_)
        refine et_aload_n (i := 0) d_M_close_109 rfl rfl ?_
        refine et_aload_n (i := 0) d_M_close_110 rfl rfl ?_
        refine et_getf (ci := 7) 16 d_M_close_111 k64 rfl in_M (by decide) fl_M_32 rfl ?_
        refine et_iload_n (i := 2) d_M_close_114 rfl rfl ?_
        refine et_ialn d_M_close_115 k71 (by omega) (by first | decide | omega) ?_
        rw [(hnode i (by omega)).2.2.2]
        refine et_aload_n (i := 0) d_M_close_116 rfl rfl ?_
        refine et_getf (ci := 7) 16 d_M_close_117 k64 rfl in_M (by decide) fl_M_32 rfl ?_
        refine et_iload_n (i := 3) d_M_close_120 rfl rfl ?_
        refine et_ialn d_M_close_121 k71 (by omega) (by first | decide | omega) ?_
        rw [(hnode j hj).2.2.2]
        refine et_invV mV_M_joinClasses (As := [_, _]) rfl d_M_close_122 lk_M_146 len_M_joinClasses k64 rfl (Nat.le_of_ble_eq_true rfl) (c_M_joinClasses (d := d) v (gH x.1 i) (gH x.1 j) (by omega) nok1 oi oj k64 g1) (Nat.le_refl _) (Nat.le_of_ble_eq_true rfl) (Nat.le_of_ble_eq_true rfl) (fun v h2 n' hp => ?_) (fun x h' n' hp => by cases hp.1)
        obtain ⟨hv, hn2, fr2, j64, g2⟩ := hp
        cases hv
        replace hn2 := hn2.symm
        subst hn2
        refine et_aload_n (i := 0) d_M_close_125 rfl rfl ?_
        refine et_iload_n (i := 3) d_M_close_126 rfl rfl ?_
        refine et_invV mV_M_removeNode (As := [_]) rfl d_M_close_127 lk_M_150 len_M_removeNode j64 rfl (Nat.le_of_ble_eq_true rfl) (c_M_removeNode (d := d) (x := gJoin x (gH x.1 i) (gH x.1 j)) j (by show gN x.1 ≤ 104; omega) hj j64 g2) (Nat.le_refl _) (Nat.le_of_ble_eq_true rfl) (Nat.le_of_ble_eq_true rfl) (fun v h3 n' hp => ?_) (fun x h' n' hp => by cases hp.1)
        obtain ⟨hv, hn2, fr3, l64, g3⟩ := hp
        cases hv
        replace hn2 := hn2.symm
        subst hn2
        refine et_iinc (lv' := [_, _, _, _]) d_M_close_130 rfl (v := nI (j + 1)) (nI_1 j) (by decide) rfl rfl ?_
        refine et_goto (tgt := 26) d_M_close_133 (by decide) ?_
        have again : ∀ (i' j' : Int32), et_M sc Y_M_close (d + 1) 0 0 (fun r h' n' => r = .inl none ∧ n' = n ∧ (∀ k, (k < 64 ∨ (64 < k ∧ k < 68) ∨ 73 < k) → h' k = h k) ∧ ∃ (g' : gr) (u' : Bool), gQuot x0.1 P g' ∧ (u = true → u' = true) ∧ ((∀ i j, i < j → j < gN x0.1 → ¬ mtw x0 i j) → u' = u) ∧ h' 64 = et_Mo th le a_ wr en al se ru (nI (gN g')) (nI (gC g')) (bI u') rs dc ds ∧ et_mg (gI g') h' ∧ ∃ b73, h' 73 = .inl (0, 104, .inl b73)) 2 [some (.ref 64), some (.int (1)), some (.int i'), some (.int j')] [] h3 n 0 0 := fun i' j' => ihK (gRem (gJoin x (gH x.1 i) (gH x.1 j)) j) _ h3 _ _ (by show gN x.1 - 1 ≤ K; omega) q1 q2 l64 g3 (fun k hk => (fr3 k (by omega)).trans ((fr2 k (by omega) (by omega)).trans (fr k hk))) (fun z => by rw [u1 z]; rfl) (fun z => absurd tw (by obtain ⟨e1, -⟩ := u2 z; subst e1; exact z i j hij hj))
        have outer : ∀ (i' j' : Int32), et_M sc Y_M_close (d + 1) 0 0 (fun r h' n' => r = .inl none ∧ n' = n ∧ (∀ k, (k < 64 ∨ (64 < k ∧ k < 68) ∨ 73 < k) → h' k = h k) ∧ ∃ (g' : gr) (u' : Bool), gQuot x0.1 P g' ∧ (u = true → u' = true) ∧ ((∀ i j, i < j → j < gN x0.1 → ¬ mtw x0 i j) → u' = u) ∧ h' 64 = et_Mo th le a_ wr en al se ru (nI (gN g')) (nI (gC g')) (bI u') rs dc ds ∧ et_mg (gI g') h' ∧ ∃ b73, h' 73 = .inl (0, 104, .inl b73)) 136 [some (.ref 64), some (.int (1)), some (.int i'), some (.int j')] [] h3 n 0 0 := by
          intro i' j'
          refine et_iinc (lv' := [_, _, _, _]) d_M_close_136 rfl rfl (by decide) rfl rfl ?_
          refine et_goto (tgt := 10) d_M_close_139 (by decide) ?_
          refine et_iload_n (i := 2) d_M_close_10 rfl rfl ?_
          refine et_aload_n (i := 0) d_M_close_11 rfl rfl ?_
          refine et_getf (ci := 7) 11 d_M_close_12 l64 rfl in_M (by decide) fl_M_119 rfl ?_
          refine et_icmp_ge (tgt := 142) d_M_close_15 (by decide) (fun q => ?_) (fun q => ?_)
          · refine et_goto (tgt := 2) d_M_close_142 (by decide) ?_
            exact again _ _
          · refine et_iload_n (i := 1) d_M_close_18 rfl rfl ?_
            refine et_if_ne (tgt := 142) d_M_close_19 (by decide) (fun _ => ?_) (fun q => absurd q (by decide))
            refine et_goto (tgt := 2) d_M_close_142 (by decide) ?_
            exact again _ _
        refine et_iload_n (i := 3) d_M_close_26 rfl rfl ?_
        refine et_aload_n (i := 0) d_M_close_27 rfl rfl ?_
        refine et_getf (ci := 7) 11 d_M_close_28 l64 rfl in_M (by decide) fl_M_119 rfl ?_
        refine et_icmp_ge (tgt := 136) d_M_close_31 (by decide) (fun q => ?_) (fun q => ?_)
        · exact outer _ _
        · refine et_iload_n (i := 1) d_M_close_34 rfl rfl ?_
          refine et_if_ne (tgt := 136) d_M_close_35 (by decide) (fun _ => ?_) (fun q => absurd q (by decide))
          exact outer _ _
      have out10 : ∀ (s i : Nat) (o3 : Option Value), i + s = gN x.1 → (∀ i' j', i' < i → i' < j' → j' < gN x.1 → ¬ mtw x i' j') → et_M sc Y_M_close (d + 1) 0 0 (fun r h' n' => r = .inl none ∧ n' = n ∧ (∀ k, (k < 64 ∨ (64 < k ∧ k < 68) ∨ 73 < k) → h' k = h k) ∧ ∃ (g' : gr) (u' : Bool), gQuot x0.1 P g' ∧ (u = true → u' = true) ∧ ((∀ i j, i < j → j < gN x0.1 → ¬ mtw x0 i j) → u' = u) ∧ h' 64 = et_Mo th le a_ wr en al se ru (nI (gN g')) (nI (gC g')) (bI u') rs dc ds ∧ et_mg (gI g') h' ∧ ∃ b73, h' 73 = .inl (0, 104, .inl b73)) 10 [some (.ref 64), some (.int (0)), some (.int (nI i)), none] [] hh n 0 0 := by
        intro s
        induction s with
        | zero =>
          intro i o3 hi hno
          obtain rfl : i = gN x.1 := by omega
          refine et_iload_n (i := 2) d_M_close_10 rfl rfl ?_
          refine et_aload_n (i := 0) d_M_close_11 rfl rfl ?_
          refine et_getf (ci := 7) 11 d_M_close_12 k64 rfl in_M (by decide) fl_M_119 rfl ?_
          refine et_icmp_ge (tgt := 142) d_M_close_15 (by decide) (fun _ => ?_) (fun q => absurd (nI_le (Nat.le_refl _) (by omega)) q)
          refine et_goto (tgt := 2) d_M_close_142 (by decide) ?_
          exact fin _ _ (fun i j hij hj => hno i j (by omega) hij hj)
        | succ s ihs =>
          intro i o3 hi hno
          obtain ⟨oi1, oi2, oi3⟩ := bd.2.2 i (by omega)
          obtain ⟨ni1, ni2, ni3, ni4⟩ := hnode i (by omega)
          have inn : ∀ (t j : Nat), j + t = gN x.1 → i < j → (∀ j', i < j' → j' < j → ¬ mtw x i j') → et_M sc Y_M_close (d + 1) 0 0 (fun r h' n' => r = .inl none ∧ n' = n ∧ (∀ k, (k < 64 ∨ (64 < k ∧ k < 68) ∨ 73 < k) → h' k = h k) ∧ ∃ (g' : gr) (u' : Bool), gQuot x0.1 P g' ∧ (u = true → u' = true) ∧ ((∀ i j, i < j → j < gN x0.1 → ¬ mtw x0 i j) → u' = u) ∧ h' 64 = et_Mo th le a_ wr en al se ru (nI (gN g')) (nI (gC g')) (bI u') rs dc ds ∧ et_mg (gI g') h' ∧ ∃ b73, h' 73 = .inl (0, 104, .inl b73)) 26 [some (.ref 64), some (.int (0)), some (.int (nI i)), some (.int (nI j))] [] hh n 0 0 := by
            intro t
            induction t with
            | zero =>
              intro j hj hij hno2
              obtain rfl : j = gN x.1 := by omega
              refine et_iload_n (i := 3) d_M_close_26 rfl rfl ?_
              refine et_aload_n (i := 0) d_M_close_27 rfl rfl ?_
              refine et_getf (ci := 7) 11 d_M_close_28 k64 rfl in_M (by decide) fl_M_119 rfl ?_
              refine et_icmp_ge (tgt := 136) d_M_close_31 (by decide) (fun _ => ?_) (fun q => absurd (nI_le (Nat.le_refl _) (by omega)) q)
              refine et_iinc (lv' := [_, _, _, _]) d_M_close_136 rfl (v := nI (i + 1)) (nI_1 i) (by decide) rfl rfl ?_
              refine et_goto (tgt := 10) d_M_close_139 (by decide) ?_
              refine et_weak et_w4a (ihs (i + 1) none (by omega) (fun i' j' a b c => ?_))
              by_cases z : i' = i
              · subst z; exact hno2 j' b c
              · exact hno i' j' (by omega) b c
            | succ t iht =>
              intro j hj hij hno2
              obtain ⟨oj1, oj2, oj3⟩ := bd.2.2 j (by omega)
              obtain ⟨nj1, nj2, nj3, nj4⟩ := hnode j (by omega)
              have ui2 := up_le (C' := gC x.1) nok1 oi2
              have ui3 := up_le (C' := gC x.1) nok1 oi3
              have uj2 := up_le (C' := gC x.1) nok1 oj2
              have uj3 := up_le (C' := gC x.1) nok1 oj3
              have nxt : ¬ mtw x i j → et_M sc Y_M_close (d + 1) 0 0 (fun r h' n' => r = .inl none ∧ n' = n ∧ (∀ k, (k < 64 ∨ (64 < k ∧ k < 68) ∨ 73 < k) → h' k = h k) ∧ ∃ (g' : gr) (u' : Bool), gQuot x0.1 P g' ∧ (u = true → u' = true) ∧ ((∀ i j, i < j → j < gN x0.1 → ¬ mtw x0 i j) → u' = u) ∧ h' 64 = et_Mo th le a_ wr en al se ru (nI (gN g')) (nI (gC g')) (bI u') rs dc ds ∧ et_mg (gI g') h' ∧ ∃ b73, h' 73 = .inl (0, 104, .inl b73)) 103 [some (.ref 64), some (.int (0)), some (.int (nI i)), some (.int (nI j))] [] hh n 0 0 := by
                intro hne
                refine et_iconst (v := 0) d_M_close_103 (by decide) ?_
                refine et_istore_n (i := 1) (lv' := [_, _, _, _]) d_M_close_104 rfl (by decide) rfl rfl ?_
                refine et_iload_n (i := 1) d_M_close_105 rfl rfl ?_
                refine et_if_eq (tgt := 130) d_M_close_106 (by decide) (fun _ => ?_) (fun q => absurd rfl q)
                refine et_iinc (lv' := [_, _, _, _]) d_M_close_130 rfl (v := nI (j + 1)) (nI_1 j) (by decide) rfl rfl ?_
                refine et_goto (tgt := 26) d_M_close_133 (by decide) ?_
                refine iht (j + 1) (by omega) (by omega) (fun j' a b => ?_)
                by_cases z : j' = j
                · subst z; exact hne
                · exact hno2 j' a (by omega)
              refine et_iload_n (i := 3) d_M_close_26 rfl rfl ?_
              refine et_aload_n (i := 0) d_M_close_27 rfl rfl ?_
              refine et_getf (ci := 7) 11 d_M_close_28 k64 rfl in_M (by decide) fl_M_119 rfl ?_
              refine et_icmp_ge (tgt := 136) d_M_close_31 (by decide) (fun q => absurd q (nI_ge (by omega) (by omega))) (fun _ => ?_)
              refine et_iload_n (i := 1) d_M_close_34 rfl rfl ?_
              refine et_if_ne (tgt := 136) d_M_close_35 (by decide) (fun q => absurd rfl q) (fun _ => ?_)
              refine et_aload_n (i := 0) d_M_close_38 rfl rfl ?_
              refine et_getf (ci := 7) 13 d_M_close_39 k64 rfl in_M (by decide) fl_M_23 rfl ?_
              refine et_iload_n (i := 2) d_M_close_42 rfl rfl ?_
              refine et_ialn d_M_close_43 k68 (by omega) (by first | decide | omega) ?_
              refine et_aload_n (i := 0) d_M_close_44 rfl rfl ?_
              refine et_getf (ci := 7) 13 d_M_close_45 k64 rfl in_M (by decide) fl_M_23 rfl ?_
              refine et_iload_n (i := 3) d_M_close_48 rfl rfl ?_
              refine et_ialn d_M_close_49 k68 (by omega) (by first | decide | omega) ?_
              rw [ni1, nj1]
              refine et_icmp_ne (tgt := 103) d_M_close_50 (by decide) (fun q => ?_) (fun q => ?_)
              · exact nxt fun z => q z.1
              have q1 := q
              refine et_aload_n (i := 0) d_M_close_53 rfl rfl ?_
              refine et_aload_n (i := 0) d_M_close_54 rfl rfl ?_
              refine et_getf (ci := 7) 14 d_M_close_55 k64 rfl in_M (by decide) fl_M_26 rfl ?_
              refine et_iload_n (i := 2) d_M_close_58 rfl rfl ?_
              refine et_ialn d_M_close_59 k69 (by omega) (by first | decide | omega) ?_
              rw [ni2]
              refine et_invV mV_M_labelOf (As := [_]) rfl d_M_close_60 lk_M_143 len_M_labelOf k64 rfl (Nat.le_of_ble_eq_true rfl) (c_M_labelOf (d := d) (q := x.2) (C := gC x.1) (gL x.1 i) (by omega) oi2 k64 k72 hname) (Nat.le_refl _) (Nat.le_of_ble_eq_true rfl) (Nat.le_of_ble_eq_true rfl) (fun v h' n' hp => ?_) (fun x h' n' hp => by cases hp.1)
              obtain ⟨hv, hn2, hh2⟩ := hp
              cases hv
              subst hh2
              replace hn2 := hn2.symm
              subst hn2
              refine et_aload_n (i := 0) d_M_close_63 rfl rfl ?_
              refine et_aload_n (i := 0) d_M_close_64 rfl rfl ?_
              refine et_getf (ci := 7) 14 d_M_close_65 k64 rfl in_M (by decide) fl_M_26 rfl ?_
              refine et_iload_n (i := 3) d_M_close_68 rfl rfl ?_
              refine et_ialn d_M_close_69 k69 (by omega) (by first | decide | omega) ?_
              rw [nj2]
              refine et_invV mV_M_labelOf (As := [_]) rfl d_M_close_70 lk_M_143 len_M_labelOf k64 rfl (Nat.le_of_ble_eq_true rfl) (c_M_labelOf (d := d) (q := x.2) (C := gC x.1) (gL x.1 j) (by omega) oj2 k64 k72 hname) (Nat.le_refl _) (Nat.le_of_ble_eq_true rfl) (Nat.le_of_ble_eq_true rfl) (fun v h' n' hp => ?_) (fun x h' n' hp => by cases hp.1)
              obtain ⟨hv, hn2, hh2⟩ := hp
              cases hv
              subst hh2
              replace hn2 := hn2.symm
              subst hn2
              refine et_icmp_ne (tgt := 103) d_M_close_73 (by decide) (fun q => ?_) (fun q => ?_)
              · exact nxt fun z => q (by rw [z.2.1])
              have q2 := (eI_eq (by omega) (by omega)).mp q
              refine et_aload_n (i := 0) d_M_close_76 rfl rfl ?_
              refine et_aload_n (i := 0) d_M_close_77 rfl rfl ?_
              refine et_getf (ci := 7) 15 d_M_close_78 k64 rfl in_M (by decide) fl_M_29 rfl ?_
              refine et_iload_n (i := 2) d_M_close_81 rfl rfl ?_
              refine et_ialn d_M_close_82 k70 (by omega) (by first | decide | omega) ?_
              rw [ni3]
              refine et_invV mV_M_labelOf (As := [_]) rfl d_M_close_83 lk_M_143 len_M_labelOf k64 rfl (Nat.le_of_ble_eq_true rfl) (c_M_labelOf (d := d) (q := x.2) (C := gC x.1) (gR x.1 i) (by omega) oi3 k64 k72 hname) (Nat.le_refl _) (Nat.le_of_ble_eq_true rfl) (Nat.le_of_ble_eq_true rfl) (fun v h' n' hp => ?_) (fun x h' n' hp => by cases hp.1)
              obtain ⟨hv, hn2, hh2⟩ := hp
              cases hv
              subst hh2
              replace hn2 := hn2.symm
              subst hn2
              refine et_aload_n (i := 0) d_M_close_86 rfl rfl ?_
              refine et_aload_n (i := 0) d_M_close_87 rfl rfl ?_
              refine et_getf (ci := 7) 15 d_M_close_88 k64 rfl in_M (by decide) fl_M_29 rfl ?_
              refine et_iload_n (i := 3) d_M_close_91 rfl rfl ?_
              refine et_ialn d_M_close_92 k70 (by omega) (by first | decide | omega) ?_
              rw [nj3]
              refine et_invV mV_M_labelOf (As := [_]) rfl d_M_close_93 lk_M_143 len_M_labelOf k64 rfl (Nat.le_of_ble_eq_true rfl) (c_M_labelOf (d := d) (q := x.2) (C := gC x.1) (gR x.1 j) (by omega) oj3 k64 k72 hname) (Nat.le_refl _) (Nat.le_of_ble_eq_true rfl) (Nat.le_of_ble_eq_true rfl) (fun v h' n' hp => ?_) (fun x h' n' hp => by cases hp.1)
              obtain ⟨hv, hn2, hh2⟩ := hp
              cases hv
              subst hh2
              replace hn2 := hn2.symm
              subst hn2
              refine et_icmp_ne (tgt := 103) d_M_close_96 (by decide) (fun q => ?_) (fun q => ?_)
              · exact nxt fun z => q (by rw [z.2.2])
              have q3 := (eI_eq (by omega) (by omega)).mp q
              refine et_iconst (v := 1) d_M_close_99 (by decide) ?_
              refine et_goto (tgt := 104) d_M_close_100 (by decide) ?_
              exact found i j hij (by omega) ⟨q1, q2, q3⟩
          refine et_iload_n (i := 2) d_M_close_10 rfl rfl ?_
          refine et_aload_n (i := 0) d_M_close_11 rfl rfl ?_
          refine et_getf (ci := 7) 11 d_M_close_12 k64 rfl in_M (by decide) fl_M_119 rfl ?_
          refine et_icmp_ge (tgt := 142) d_M_close_15 (by decide) (fun q => absurd q (nI_ge (by omega) (by omega))) (fun _ => ?_)
          refine et_iload_n (i := 1) d_M_close_18 rfl rfl ?_
          refine et_if_ne (tgt := 142) d_M_close_19 (by decide) (fun q => absurd rfl q) (fun _ => ?_)
          refine et_iload_n (i := 2) d_M_close_22 rfl rfl ?_
          refine et_iconst (v := 1) d_M_close_23 (by decide) ?_
          refine et_iadd d_M_close_24 ?_
          rw [nI_1]
          refine et_istore_n (i := 3) (lv' := [_, _, _, _]) d_M_close_25 rfl (by decide) rfl rfl ?_
          exact inn (gN x.1 - (i + 1)) (i + 1) (by omega) (by omega) (fun j' a b => by omega)
      refine et_iload_n (i := 1) d_M_close_2 rfl rfl ?_
      refine et_if_eq (tgt := 145) d_M_close_3 (by decide) (fun q => absurd q (by decide)) (fun _ => ?_)
      refine et_iconst (v := 0) d_M_close_6 (by decide) ?_
      refine et_istore_n (i := 1) (lv' := [_, _, _, _]) d_M_close_7 rfl (by decide) rfl rfl ?_
      refine et_iconst (v := 0) d_M_close_8 (by decide) ?_
      refine et_istore_n (i := 2) (lv' := [_, _, _, _]) d_M_close_9 rfl (by decide) rfl rfl ?_
      exact et_weak et_w4a (out10 (gN x.1) 0 none (by omega) (fun i' j' a _ _ => absurd a (Nat.not_lt_zero _)))
  refine et_iconst (v := 1) d_M_close_0 (by decide) ?_
  refine et_istore_n (i := 1) (lv' := [_, _, _, _]) d_M_close_1 rfl (by decide) rfl rfl ?_
  exact go (gN x0.1) x0 u h none none (Nat.le_refl _) ok (st_0 ok nok nid hP1 hP2) h64 hg (fun _ _ => rfl) (fun z => z) (fun _ => ⟨rfl, rfl⟩)
