set_option maxHeartbeats 4000000 in
set_option maxRecDepth 100000 in
theorem c_M_push {sc : et_X} {h : Nat → et_MC} {d n : Nat} {th le a_ wr en al se ru un : Int32} {dc ds : Int64} {x : gx} {sa va : Nat → Int32} {stk : List Nat} {vs : Nat → Nat} (gw : Bool) (c : Int32) (ok : gOk 103 x.1) (h64 : h 64 = et_Mo th le a_ wr en al se ru (nI (gN x.1)) (nI (gC x.1)) un (nI stk.length) dc ds) (h74 : h 74 = .inl (0, 62, .inl sa)) (h75 : h 75 = .inl (0, 3, .inl va)) (hg : et_mg x h) (hst : (∀ j (hj : j < stk.length), sa (stk.length - 1 - j) = nI stk[j])) (hC : ∀ c ∈ stk, c < gC x.1) (hlen : stk.length ≤ 60) (hpp : et_pp c ≠ -1) (hpw : pw c ≤ stk.length) (hvs : et_isv c → va (c - 97).toNatClampNeg = nI (vs (c - 97).toNatClampNeg) ∧ vs (c - 97).toNatClampNeg < gC x.1) : et_Cn sc Y_M_push (d + 2) [.ref 64, .int c, .int (bI gw)] h n 0 0 (fun r h' n' => n' = n ∧ (∀ k, (k < 64 ∨ (64 < k ∧ k < 68) ∨ (72 < k ∧ k ≠ 74)) → h' k = h k) ∧ ((∃ stk' x' sa', gPush gw 1000 vs c stk x = some (stk', x') ∧ r = .inl (some (.int 1)) ∧ h' 64 = et_Mo th le a_ wr en al se ru (nI (gN x'.1)) (nI (gC x'.1)) un (nI stk'.length) dc ds ∧ h' 74 = .inl (0, 62, .inl sa') ∧ (∀ j (hj : j < stk'.length), sa' (stk'.length - 1 - j) = nI stk'[j]) ∧ et_mg x' h') ∨ (gPush gw 1000 vs c stk x = none ∧ r = .inl (some (.int 0)) ∧ ∃ rs' sa', h' 64 = et_Mo th le a_ wr en al se ru (nI (gN x.1)) (nI (gC x.1)) un rs' dc ds ∧ h' 74 = .inl (0, 62, .inl sa') ∧ et_mg x h'))) := by
  refine et_Cn.of 4 rfl rfl (by decide) mV_M_push.1 ?_
  have top : ∀ q, q < stk.length → sa (stk.length - 1 - q) = eI (stk.getD q 0 + 1) ∧ stk.getD q 0 + 1 < 2 ^ 31 := by
    intro q hq
    have e : stk.getD q 0 = stk[q] := by simp [List.getD, hq]
    rw [e, eI_s]
    have := hC _ (List.getElem_mem hq)
    exact ⟨hst q hq, by have := ok.1; have := ok.2.1; omega⟩
  have tail : ∀ (np : Int32) (p : Nat) (v : Int32) (x1 : gx) (h1 : Nat → et_MC) (o4 o5 : Int32), p = pw c → ((p = 0 ∧ np ≤ 0) ∨ (0 < p ∧ np = nI p)) → h1 64 = et_Mo th le a_ wr en al se ru (nI (gN x1.1)) (nI (gC x1.1)) un (nI stk.length) dc ds → et_mg x1 h1 → et_m72 h h1 → ((∃ cc, cc < 2 ^ 31 ∧ v = nI cc ∧ gPush gw 1000 vs c stk x = some (cc :: stk.drop p, x1)) ∨ (v = -1 ∧ x1 = x ∧ gPush gw 1000 vs c stk x = none)) → et_M sc Y_M_push (d + 2) 0 0 (fun r h' n' => n' = n ∧ (∀ k, (k < 64 ∨ (64 < k ∧ k < 68) ∨ (72 < k ∧ k ≠ 74)) → h' k = h k) ∧ ((∃ stk' x' sa', gPush gw 1000 vs c stk x = some (stk', x') ∧ r = .inl (some (.int 1)) ∧ h' 64 = et_Mo th le a_ wr en al se ru (nI (gN x'.1)) (nI (gC x'.1)) un (nI stk'.length) dc ds ∧ h' 74 = .inl (0, 62, .inl sa') ∧ (∀ j (hj : j < stk'.length), sa' (stk'.length - 1 - j) = nI stk'[j]) ∧ et_mg x' h') ∨ (gPush gw 1000 vs c stk x = none ∧ r = .inl (some (.int 0)) ∧ ∃ rs' sa', h' 64 = et_Mo th le a_ wr en al se ru (nI (gN x.1)) (nI (gC x.1)) un rs' dc ds ∧ h' 74 = .inl (0, 62, .inl sa') ∧ et_mg x h'))) 74 [some (.ref 64), some (.int c), some (.int (bI gw)), some (.int (np)), some (.int o4), some (.int o5), none] [.int v] h1 n 0 0 := by
    intro np p v x1 h1 o4 o5 hp hnp g64 g1 fr1 hv
    have g74 : h1 74 = .inl (0, 62, .inl sa) := (fr1 74 (by omega)).trans h74
    have mid : ∀ (rs : Int32), rs = nI (stk.length - p) → et_M sc Y_M_push (d + 2) 0 0 (fun r h' n' => n' = n ∧ (∀ k, (k < 64 ∨ (64 < k ∧ k < 68) ∨ (72 < k ∧ k ≠ 74)) → h' k = h k) ∧ ((∃ stk' x' sa', gPush gw 1000 vs c stk x = some (stk', x') ∧ r = .inl (some (.int 1)) ∧ h' 64 = et_Mo th le a_ wr en al se ru (nI (gN x'.1)) (nI (gC x'.1)) un (nI stk'.length) dc ds ∧ h' 74 = .inl (0, 62, .inl sa') ∧ (∀ j (hj : j < stk'.length), sa' (stk'.length - 1 - j) = nI stk'[j]) ∧ et_mg x' h') ∨ (gPush gw 1000 vs c stk x = none ∧ r = .inl (some (.int 0)) ∧ ∃ rs' sa', h' 64 = et_Mo th le a_ wr en al se ru (nI (gN x.1)) (nI (gC x.1)) un rs' dc ds ∧ h' 74 = .inl (0, 62, .inl sa') ∧ et_mg x h'))) 94 [some (.ref 64), some (.int c), some (.int (bI gw)), some (.int (np)), some (.int o4), some (.int o5), some (.int v)] [.int rs, .ref 64] h1 n 0 0 := by
      intro rs hrs
      subst hrs
      refine et_putf (ci := 7) 21 d_M_push_94 g64 rfl in_M ty_M nm_M (by decide) fl_M_129 rfl rfl (fun _ => rfl) (fun _ => rfl) (Nat.le_of_ble_eq_true rfl) (fs' := [_, _, _, _, _, _, _, _, _, _, _, _, _, _, _, _, _, _, _, _, _, _, _, _, _, _, _, _, _, _, _, _, _]) rfl ?_
      refine et_aload_n (i := 0) d_M_push_97 rfl rfl ?_
      refine et_getf (ci := 7) 20 d_M_push_98 rfl rfl in_M (by decide) fl_M_41 rfl ?_
      refine et_aload_n (i := 0) d_M_push_101 rfl rfl ?_
      refine et_getf (ci := 7) 21 d_M_push_102 rfl rfl in_M (by decide) fl_M_129 rfl ?_
      refine et_iload d_M_push_105 rfl ?_
      refine et_iasn d_M_push_107 g74 (by omega) (by first | decide | omega) ?_
      refine et_aload_n (i := 0) d_M_push_108 rfl rfl ?_
      refine et_dup d_M_push_109 rfl ?_
      refine et_getf (ci := 7) 21 d_M_push_110 rfl rfl in_M (by decide) fl_M_129 rfl ?_
      refine et_iconst (v := 1) d_M_push_113 (by decide) ?_
      refine et_iadd d_M_push_114 ?_
      rw [nI_1]
      refine et_putf (ci := 7) 21 d_M_push_115 rfl rfl in_M ty_M nm_M (by decide) fl_M_129 rfl rfl (fun _ => rfl) (fun _ => rfl) (Nat.le_of_ble_eq_true rfl) (fs' := [_, _, _, _, _, _, _, _, _, _, _, _, _, _, _, _, _, _, _, _, _, _, _, _, _, _, _, _, _, _, _, _, _]) rfl ?_
      refine et_iload d_M_push_118 rfl ?_
      have hl2 : ∀ cc : Nat, (cc :: stk.drop p).length = stk.length - p + 1 := fun cc => by rw [List.length_cons, List.length_drop]
      rcases hv with ⟨cc, c31, rfl, hpush⟩ | ⟨rfl, rfl, hpush⟩
      · refine et_if_lt (tgt := 127) d_M_push_120 (by decide) (fun q => absurd q (nI_n0 c31)) (fun _ => ?_)
        refine et_iconst (v := 1) d_M_push_123 (by decide) ?_
        refine et_goto (tgt := 128) d_M_push_124 (by decide) ?_
        refine et_zret d_M_push_128 rfl rfl (Nat.le_refl _) (Nat.le_refl _) ⟨rfl, fun k hk => by simp [va_up, show k ≠ 64 by omega, show k ≠ 74 by omega, fr1 k (by omega)], Or.inl ⟨_, x1, upd sa (stk.length - p) (nI cc), hpush, rfl, by rw [hl2]; rfl, rfl, fun q hq => ?_, g1.same (fun k a b => by simp [va_up, show k ≠ 64 by omega, show k ≠ 74 by omega])⟩⟩
        rw [hl2] at hq ⊢
        cases q with
        | zero =>
          rw [show stk.length - p + 1 - 1 - 0 = stk.length - p by omega, pk_us]
          rfl
        | succ q =>
          rw [pk_un (by omega)]
          have hq2 : p + q < stk.length := by omega
          have := hst (p + q) hq2
          rw [show stk.length - p + 1 - 1 - (q + 1) = stk.length - 1 - (p + q) by omega, this]
          congr 1
          simp [List.getElem_cons_succ, List.getElem_drop]
      · refine et_if_lt (tgt := 127) d_M_push_120 (by decide) (fun _ => ?_) (fun q => absurd (by decide) q)
        refine et_iconst (v := 0) d_M_push_127 (by decide) ?_
        exact et_zret d_M_push_128 rfl rfl (Nat.le_refl _) (Nat.le_refl _) ⟨rfl, fun k hk => by simp [va_up, show k ≠ 64 by omega, show k ≠ 74 by omega, fr1 k (by omega)], Or.inr ⟨hpush, rfl, _, _, rfl, rfl, g1.same (fun k a b => by simp [va_up, show k ≠ 64 by omega, show k ≠ 74 by omega])⟩⟩
    refine et_istore (lv' := [_, _, _, _, _, _, _]) d_M_push_74 (by decide) rfl rfl ?_
    refine et_aload_n (i := 0) d_M_push_76 rfl rfl ?_
    refine et_iload_n (i := 3) d_M_push_77 rfl rfl ?_
    rcases hnp with ⟨z, hz⟩ | ⟨z, hz⟩
    · refine et_if_le (tgt := 90) d_M_push_78 (by decide) (fun _ => ?_) (fun q => absurd hz q)
      refine et_aload_n (i := 0) d_M_push_90 rfl rfl ?_
      refine et_getf (ci := 7) 21 d_M_push_91 g64 rfl in_M (by decide) fl_M_129 rfl ?_
      exact mid _ (by rw [z, Nat.sub_zero])
    · subst hz
      refine et_if_le (tgt := 90) d_M_push_78 (by decide) (fun q => absurd q (nI_nle (by omega) (by omega))) (fun _ => ?_)
      refine et_aload_n (i := 0) d_M_push_81 rfl rfl ?_
      refine et_getf (ci := 7) 21 d_M_push_82 g64 rfl in_M (by decide) fl_M_129 rfl ?_
      refine et_iload_n (i := 3) d_M_push_85 rfl rfl ?_
      refine et_isub d_M_push_86 ?_
      rw [nI_sub (by omega)]
      refine et_goto (tgt := 94) d_M_push_87 (by decide) ?_
      exact mid _ rfl
  refine et_iload_n (i := 1) d_M_push_0 rfl rfl ?_
  refine et_invS mS_M_takes (As := [_]) rfl d_M_push_1 lk_M_98 len_M_takes (Nat.le_of_ble_eq_true rfl) (c_M_takes (d := d) c) (Nat.le_refl _) (Nat.le_of_ble_eq_true rfl) (Nat.le_of_ble_eq_true rfl) (fun v h' n' hp => ?_) (fun x h' n' hp => by cases hp.1)
  obtain ⟨hv, hn2, hh2⟩ := hp
  cases hv
  subst hh2
  replace hn2 := hn2.symm
  subst hn2
  by_cases hv1 : et_isv c
  · have hp0 : pw c = 0 := pw_0 (by rw [et_pp, if_pos hv1])
    obtain ⟨i1, i2, -⟩ := et_isv_in hv1
    obtain ⟨v1, v2⟩ := hvs hv1
    rw [et_isv_pt hv1]
    refine et_istore_n (i := 3) (lv' := [_, _, _, _, _, _, _]) d_M_push_4 rfl (by decide) rfl rfl ?_
    refine et_iload_n (i := 3) d_M_push_5 rfl rfl ?_
    refine et_if_le (tgt := 23) d_M_push_6 (by decide) (fun _ => ?_) (fun q => absurd (by decide) q)
    refine et_iconst (v := (-1)) d_M_push_23 (by decide) ?_
    refine et_istore (lv' := [_, _, _, _, _, _, _]) d_M_push_24 (by decide) rfl rfl ?_
    refine et_iload_n (i := 3) d_M_push_26 rfl rfl ?_
    refine et_iconst (v := 1) d_M_push_27 (by decide) ?_
    refine et_icmp_le (tgt := 45) d_M_push_28 (by decide) (fun _ => ?_) (fun q => absurd (by decide) q)
    refine et_iconst (v := (-1)) d_M_push_45 (by decide) ?_
    refine et_istore (lv' := [_, _, _, _, _, _, _]) d_M_push_46 (by decide) rfl rfl ?_
    refine et_iload_n (i := 3) d_M_push_48 rfl rfl ?_
    refine et_if_ge (tgt := 64) d_M_push_49 (by decide) (fun q => absurd q (by decide)) (fun _ => ?_)
    refine et_aload_n (i := 0) d_M_push_52 rfl rfl ?_
    refine et_getf (ci := 7) 22 d_M_push_53 h64 rfl in_M (by decide) fl_M_44 rfl ?_
    refine et_iload_n (i := 1) d_M_push_56 rfl rfl ?_
    refine et_bipush (v := 97) d_M_push_57 (by decide) ?_
    refine et_isub d_M_push_59 ?_
    rw [i2]
    refine et_ialn d_M_push_60 h75 (by omega) (by first | decide | omega) ?_
    rw [v1]
    refine et_goto (tgt := 74) d_M_push_61 (by decide) ?_
    exact tail _ 0 _ x _ _ _ hp0.symm (Or.inl ⟨rfl, by decide⟩) h64 hg (fun _ _ => rfl) (Or.inl ⟨_, by have := ok.1; have := ok.2.1; omega, rfl, by rw [gPush_v hv1]; rfl⟩)
  · rcases pw_pt hv1 hpp with ⟨e0, hp0⟩ | ⟨e0, hp0⟩ | ⟨e0, hp0⟩
    · rw [e0]
      refine et_istore_n (i := 3) (lv' := [_, _, _, _, _, _, _]) d_M_push_4 rfl (by decide) rfl rfl ?_
      refine et_iload_n (i := 3) d_M_push_5 rfl rfl ?_
      refine et_if_le (tgt := 23) d_M_push_6 (by decide) (fun _ => ?_) (fun q => absurd (by decide) q)
      refine et_iconst (v := (-1)) d_M_push_23 (by decide) ?_
      refine et_istore (lv' := [_, _, _, _, _, _, _]) d_M_push_24 (by decide) rfl rfl ?_
      refine et_iload_n (i := 3) d_M_push_26 rfl rfl ?_
      refine et_iconst (v := 1) d_M_push_27 (by decide) ?_
      refine et_icmp_le (tgt := 45) d_M_push_28 (by decide) (fun _ => ?_) (fun q => absurd (by decide) q)
      refine et_iconst (v := (-1)) d_M_push_45 (by decide) ?_
      refine et_istore (lv' := [_, _, _, _, _, _, _]) d_M_push_46 (by decide) rfl rfl ?_
      refine et_iload_n (i := 3) d_M_push_48 rfl rfl ?_
      refine et_if_ge (tgt := 64) d_M_push_49 (by decide) (fun _ => ?_) (fun q => absurd (by decide) q)
      refine et_aload_n (i := 0) d_M_push_64 rfl rfl ?_
      refine et_iload_n (i := 1) d_M_push_65 rfl rfl ?_
      refine et_iload d_M_push_66 rfl ?_
      refine et_iload d_M_push_68 rfl ?_
      refine et_iload_n (i := 2) d_M_push_70 rfl rfl ?_
      rw [show (-1 : Int32) = eI 0 from eI_0.symm]
      refine et_invV mV_M_classOf (As := [_, _, _, _]) rfl d_M_push_71 lk_M_132 len_M_classOf h64 rfl (Nat.le_of_ble_eq_true rfl) (c_M_classOf (d := d) gw c 0 0 ok (by decide) (by decide) h64 hg) (Nat.le_refl _) (Nat.le_of_ble_eq_true rfl) (Nat.le_of_ble_eq_true rfl) (fun v h' n' hp => ?_) (fun y h' n' hp => by rcases hp.2.2 with ⟨c, x', -, e, -⟩ | ⟨-, e, -⟩ <;> cases e)
      obtain ⟨hn2, fr2, hres⟩ := hp
      replace hn2 := hn2.symm
      subst hn2
      rcases hres with ⟨cc, x2, e, hv, k64, g2⟩ | ⟨e, hv, hh2⟩
      · cases hv
        obtain ⟨ok2, hc2, -, -⟩ := gHome_ok (B := 104) (x := x) ⟨by have := ok.1; omega, ok.2⟩ (Nat.zero_le _) (Nat.zero_le _) (Or.inl (by have := ok.1; omega)) e
        exact tail _ 0 _ x2 _ _ _ hp0.symm (Or.inl ⟨rfl, by decide⟩) k64 g2 fr2 (Or.inl ⟨cc, by have := ok2.1; have := ok2.2.1; omega, rfl, by rw [gPush_0 hv1 e0, e]; rfl⟩)
      · cases hv
        subst hh2
        exact tail _ 0 _ x _ _ _ hp0.symm (Or.inl ⟨rfl, by decide⟩) h64 hg (fun _ _ => rfl) (Or.inr ⟨rfl, rfl, by rw [gPush_0 hv1 e0, e]; rfl⟩)
    · obtain ⟨t1, t2⟩ := top 0 (by omega)
      have l1 : stk.getD 0 0 + 1 ≤ gC x.1 := hC _ (getD_mem (by omega))
      rw [e0]
      refine et_istore_n (i := 3) (lv' := [_, _, _, _, _, _, _]) d_M_push_4 rfl (by decide) rfl rfl ?_
      refine et_iload_n (i := 3) d_M_push_5 rfl rfl ?_
      refine et_if_le (tgt := 23) d_M_push_6 (by decide) (fun q => absurd q (by decide)) (fun _ => ?_)
      refine et_aload_n (i := 0) d_M_push_9 rfl rfl ?_
      refine et_getf (ci := 7) 20 d_M_push_10 h64 rfl in_M (by decide) fl_M_41 rfl ?_
      refine et_aload_n (i := 0) d_M_push_13 rfl rfl ?_
      refine et_getf (ci := 7) 21 d_M_push_14 h64 rfl in_M (by decide) fl_M_129 rfl ?_
      refine et_iconst (v := 1) d_M_push_17 (by decide) ?_
      refine et_isub d_M_push_18 ?_
      rw [show (1 : Int32) = nI 1 from rfl, nI_sub (show 1 ≤ stk.length by omega)]
      refine et_ialn d_M_push_19 h74 (by omega) (by first | decide | omega) ?_
      rw [show stk.length - 1 = stk.length - 1 - 0 from rfl, t1]
      refine et_goto (tgt := 24) d_M_push_20 (by decide) ?_
      refine et_istore (lv' := [_, _, _, _, _, _, _]) d_M_push_24 (by decide) rfl rfl ?_
      refine et_iload_n (i := 3) d_M_push_26 rfl rfl ?_
      refine et_iconst (v := 1) d_M_push_27 (by decide) ?_
      refine et_icmp_le (tgt := 45) d_M_push_28 (by decide) (fun _ => ?_) (fun q => absurd (by decide) q)
      refine et_iconst (v := (-1)) d_M_push_45 (by decide) ?_
      refine et_istore (lv' := [_, _, _, _, _, _, _]) d_M_push_46 (by decide) rfl rfl ?_
      refine et_iload_n (i := 3) d_M_push_48 rfl rfl ?_
      refine et_if_ge (tgt := 64) d_M_push_49 (by decide) (fun _ => ?_) (fun q => absurd (by decide) q)
      refine et_aload_n (i := 0) d_M_push_64 rfl rfl ?_
      refine et_iload_n (i := 1) d_M_push_65 rfl rfl ?_
      refine et_iload d_M_push_66 rfl ?_
      refine et_iload d_M_push_68 rfl ?_
      refine et_iload_n (i := 2) d_M_push_70 rfl rfl ?_
      rw [show (-1 : Int32) = eI 0 from eI_0.symm]
      refine et_invV mV_M_classOf (As := [_, _, _, _]) rfl d_M_push_71 lk_M_132 len_M_classOf h64 rfl (Nat.le_of_ble_eq_true rfl) (c_M_classOf (d := d) gw c (stk.getD 0 0 + 1) 0 ok t2 (by decide) h64 hg) (Nat.le_refl _) (Nat.le_of_ble_eq_true rfl) (Nat.le_of_ble_eq_true rfl) (fun v h' n' hp => ?_) (fun y h' n' hp => by rcases hp.2.2 with ⟨c, x', -, e, -⟩ | ⟨-, e, -⟩ <;> cases e)
      obtain ⟨hn2, fr2, hres⟩ := hp
      replace hn2 := hn2.symm
      subst hn2
      rcases hres with ⟨cc, x2, e, hv, k64, g2⟩ | ⟨e, hv, hh2⟩
      · cases hv
        obtain ⟨ok2, hc2, -, -⟩ := gHome_ok (B := 104) (x := x) ⟨by have := ok.1; omega, ok.2⟩ l1 (Nat.zero_le _) (Or.inl (by have := ok.1; omega)) e
        exact tail _ 1 _ x2 _ _ _ hp0.symm (Or.inr ⟨by decide, rfl⟩) k64 g2 fr2 (Or.inl ⟨cc, by have := ok2.1; have := ok2.2.1; omega, rfl, by rw [gPush_1 hv1 e0, e]; rfl⟩)
      · cases hv
        subst hh2
        exact tail _ 1 _ x _ _ _ hp0.symm (Or.inr ⟨by decide, rfl⟩) h64 hg (fun _ _ => rfl) (Or.inr ⟨rfl, rfl, by rw [gPush_1 hv1 e0, e]; rfl⟩)
    · obtain ⟨t1, t2⟩ := top 0 (by omega)
      obtain ⟨u1, u2⟩ := top 1 (by omega)
      have l1 : stk.getD 0 0 + 1 ≤ gC x.1 := hC _ (getD_mem (by omega))
      have l2 : stk.getD 1 0 + 1 ≤ gC x.1 := hC _ (getD_mem (by omega))
      rw [e0]
      refine et_istore_n (i := 3) (lv' := [_, _, _, _, _, _, _]) d_M_push_4 rfl (by decide) rfl rfl ?_
      refine et_iload_n (i := 3) d_M_push_5 rfl rfl ?_
      refine et_if_le (tgt := 23) d_M_push_6 (by decide) (fun q => absurd q (by decide)) (fun _ => ?_)
      refine et_aload_n (i := 0) d_M_push_9 rfl rfl ?_
      refine et_getf (ci := 7) 20 d_M_push_10 h64 rfl in_M (by decide) fl_M_41 rfl ?_
      refine et_aload_n (i := 0) d_M_push_13 rfl rfl ?_
      refine et_getf (ci := 7) 21 d_M_push_14 h64 rfl in_M (by decide) fl_M_129 rfl ?_
      refine et_iconst (v := 1) d_M_push_17 (by decide) ?_
      refine et_isub d_M_push_18 ?_
      rw [show (1 : Int32) = nI 1 from rfl, nI_sub (show 1 ≤ stk.length by omega)]
      refine et_ialn d_M_push_19 h74 (by omega) (by first | decide | omega) ?_
      rw [show stk.length - 1 = stk.length - 1 - 0 from rfl, t1]
      refine et_goto (tgt := 24) d_M_push_20 (by decide) ?_
      refine et_istore (lv' := [_, _, _, _, _, _, _]) d_M_push_24 (by decide) rfl rfl ?_
      refine et_iload_n (i := 3) d_M_push_26 rfl rfl ?_
      refine et_iconst (v := 1) d_M_push_27 (by decide) ?_
      refine et_icmp_le (tgt := 45) d_M_push_28 (by decide) (fun q => absurd q (by decide)) (fun _ => ?_)
      refine et_aload_n (i := 0) d_M_push_31 rfl rfl ?_
      refine et_getf (ci := 7) 20 d_M_push_32 h64 rfl in_M (by decide) fl_M_41 rfl ?_
      refine et_aload_n (i := 0) d_M_push_35 rfl rfl ?_
      refine et_getf (ci := 7) 21 d_M_push_36 h64 rfl in_M (by decide) fl_M_129 rfl ?_
      refine et_iconst (v := 2) d_M_push_39 (by decide) ?_
      refine et_isub d_M_push_40 ?_
      rw [show (2 : Int32) = nI 2 from rfl, nI_sub (show 2 ≤ stk.length by omega)]
      refine et_ialn d_M_push_41 h74 (by omega) (by first | decide | omega) ?_
      rw [show stk.length - 2 = stk.length - 1 - 1 from rfl, u1]
      refine et_goto (tgt := 46) d_M_push_42 (by decide) ?_
      refine et_istore (lv' := [_, _, _, _, _, _, _]) d_M_push_46 (by decide) rfl rfl ?_
      refine et_iload_n (i := 3) d_M_push_48 rfl rfl ?_
      refine et_if_ge (tgt := 64) d_M_push_49 (by decide) (fun _ => ?_) (fun q => absurd (by decide) q)
      refine et_aload_n (i := 0) d_M_push_64 rfl rfl ?_
      refine et_iload_n (i := 1) d_M_push_65 rfl rfl ?_
      refine et_iload d_M_push_66 rfl ?_
      refine et_iload d_M_push_68 rfl ?_
      refine et_iload_n (i := 2) d_M_push_70 rfl rfl ?_
      refine et_invV mV_M_classOf (As := [_, _, _, _]) rfl d_M_push_71 lk_M_132 len_M_classOf h64 rfl (Nat.le_of_ble_eq_true rfl) (c_M_classOf (d := d) gw c (stk.getD 0 0 + 1) (stk.getD 1 0 + 1) ok t2 u2 h64 hg) (Nat.le_refl _) (Nat.le_of_ble_eq_true rfl) (Nat.le_of_ble_eq_true rfl) (fun v h' n' hp => ?_) (fun y h' n' hp => by rcases hp.2.2 with ⟨c, x', -, e, -⟩ | ⟨-, e, -⟩ <;> cases e)
      obtain ⟨hn2, fr2, hres⟩ := hp
      replace hn2 := hn2.symm
      subst hn2
      rcases hres with ⟨cc, x2, e, hv, k64, g2⟩ | ⟨e, hv, hh2⟩
      · cases hv
        obtain ⟨ok2, hc2, -, -⟩ := gHome_ok (B := 104) (x := x) ⟨by have := ok.1; omega, ok.2⟩ l1 l2 (Or.inl (by have := ok.1; omega)) e
        exact tail _ 2 _ x2 _ _ _ hp0.symm (Or.inr ⟨by decide, rfl⟩) k64 g2 fr2 (Or.inl ⟨cc, by have := ok2.1; have := ok2.2.1; omega, rfl, by rw [gPush_2 hv1 e0, e]; rfl⟩)
      · cases hv
        subst hh2
        exact tail _ 2 _ x _ _ _ hp0.symm (Or.inr ⟨by decide, rfl⟩) h64 hg (fun _ _ => rfl) (Or.inr ⟨rfl, rfl, by rw [gPush_2 hv1 e0, e]; rfl⟩)
theorem gEval_bd {gw : Bool} {lim : Nat} {vs : Nat → Nat} : ∀ {w : List Int32} {x y : gx} {stk : List Nat}, gEval gw lim vs w x = some (stk, y) → gN y.1 ≤ gN x.1 + w.length
  | [], x, y, stk, h => by
    rw [gEval] at h
    cases h
    exact Nat.le_refl _
  | c :: w, x, y, stk, h => by
    rw [gEval] at h
    cases he : gEval gw lim vs w x with
    | none => rw [he] at h; cases h
    | some p =>
      obtain ⟨stk1, x1⟩ := p
      rw [he] at h
      have ih := gEval_bd he
      have h : gPush gw lim vs c stk1 x1 = some (stk, y) := h
      show gN y.1 ≤ gN x.1 + (w.length + 1)
      rcases gPush_cases (vs := vs) (c := c) (stk := stk1) with e | ⟨l, r, k, e⟩
      · rw [e] at h; cases h; omega
      · rw [e] at h
        cases hh : gHome gw lim x1 c l r with
        | none => rw [hh] at h; cases h
        | some q =>
          obtain ⟨cc, x2⟩ := q
          rw [hh] at h
          cases h
          rcases gHome_cases hh with ⟨-, b⟩ | ⟨-, -, -, b, -⟩
          · rw [b]; show gN x1.1 ≤ _; omega
          · rw [b]; show gN x1.1 + 1 ≤ _; omega
set_option maxHeartbeats 4000000 in
set_option maxRecDepth 100000 in
theorem c_M_workText {sc : et_X} {h : Nat → et_MC} {d n : Nat} {th le a_ wr en al se ru un rs : Int32} {dc ds : Int64} {x : gx} {sa va row : Nat → Int32} {vs mm : Nat → Nat} (gw : Bool) (fr to : Nat) (G : gG 40 x.1) (h64 : h 64 = et_Mo th le a_ wr en al se ru (nI (gN x.1)) (nI (gC x.1)) un rs dc ds) (h74 : h 74 = .inl (0, 62, .inl sa)) (h75 : h 75 = .inl (0, 3, .inl va)) (hg : et_mg x h) (hw : wf mm row fr to) (hvs : ∀ i, fr ≤ i → i < to → et_isv (row i) → va (row i - 97).toNatClampNeg = nI (vs (row i - 97).toNatClampNeg) ∧ vs (row i - 97).toNatClampNeg < gC x.1) (h65 : h 65 = .inl (0, 60, .inl row)) (hto : to ≤ 60) : et_Cn sc Y_M_workText (d + 3) [.ref 64, .int (nI fr), .int (nI to), .int (bI gw)] h n 0 0 (fun r h' n' => n' = n ∧ (∀ k, (k < 64 ∨ (64 < k ∧ k < 68) ∨ (72 < k ∧ k ≠ 74)) → h' k = h k) ∧ ∃ rs' sa', h' 74 = .inl (0, 62, .inl sa') ∧ ((∃ c x', gEval gw 1000 vs (sg row to (to - fr)) x = some ([c], x') ∧ r = .inl (some (.int (nI c))) ∧ h' 64 = et_Mo th le a_ wr en al se ru (nI (gN x'.1)) (nI (gC x'.1)) un rs' dc ds ∧ et_mg x' h') ∨ (gEval gw 1000 vs (sg row to (to - fr)) x = none ∧ gw = false ∧ r = .inl (some (.int (-1))) ∧ h' 64 = et_Mo th le a_ wr en al se ru (nI (gN x.1)) (nI (gC x.1)) un rs' dc ds ∧ et_mg x h'))) := by
  refine et_Cn.of 2 rfl rfl (by decide) mV_M_workText.1 ?_
  have hfr := hw.1
  have hN40 := G.1.1
  have hto60 : to - fr ≤ 60 := by omega
  have loop : ∀ (t i : Nat) (stk : List Nat) (x1 : gx) (sa : Nat → Int32) (hh : Nat → et_MC), i = fr + t → i ≤ to → gEval gw 1000 vs (sg row to (to - i)) x = some (stk, x1) → hh 64 = et_Mo th le a_ wr en al se ru (nI (gN x1.1)) (nI (gC x1.1)) un (nI stk.length) dc ds → hh 74 = .inl (0, 62, .inl sa) → (∀ j (hj : j < stk.length), sa (stk.length - 1 - j) = nI stk[j]) → et_mg x1 hh → (∀ k, (k < 64 ∨ (64 < k ∧ k < 68) ∨ (72 < k ∧ k ≠ 74)) → hh k = h k) → et_M sc Y_M_workText (d + 3) 0 0 (fun r h' n' => n' = n ∧ (∀ k, (k < 64 ∨ (64 < k ∧ k < 68) ∨ (72 < k ∧ k ≠ 74)) → h' k = h k) ∧ ∃ rs' sa', h' 74 = .inl (0, 62, .inl sa') ∧ ((∃ c x', gEval gw 1000 vs (sg row to (to - fr)) x = some ([c], x') ∧ r = .inl (some (.int (nI c))) ∧ h' 64 = et_Mo th le a_ wr en al se ru (nI (gN x'.1)) (nI (gC x'.1)) un rs' dc ds ∧ et_mg x' h') ∨ (gEval gw 1000 vs (sg row to (to - fr)) x = none ∧ gw = false ∧ r = .inl (some (.int (-1))) ∧ h' 64 = et_Mo th le a_ wr en al se ru (nI (gN x.1)) (nI (gC x.1)) un rs' dc ds ∧ et_mg x h'))) 13 [some (.ref 64), some (.int (nI fr)), some (.int (nI to)), some (.int (bI gw)), some (.int (1)), some (.int (eI i))] [] hh n 0 0 := by
    intro t
    induction t with
    | zero =>
      intro i stk x1 sa hh hi hit hev g64 g74 hst g1 fr1
      obtain rfl : i = fr := by omega
      have hsl := (gEval_nw (B := 1000) (g := x.1) (Nat.le_refl _) hw (fun i a b c => (hvs i a b c).2) (G.mono (by omega)) (gNw.refl _) (Nat.le_refl _) hev).2.2.1
      rw [show to - (to - i) = i by omega, hw.2.1] at hsl
      refine et_iload d_M_workText_13 rfl ?_
      refine et_iload_n (i := 1) d_M_workText_15 rfl rfl ?_
      refine et_icmp_lt (tgt := 44) d_M_workText_16 (by decide) (fun _ => ?_) (fun q => absurd (eI_lt (by omega)) q)
      refine et_iload d_M_workText_44 rfl ?_
      refine et_if_eq (tgt := 58) d_M_workText_46 (by decide) (fun q => absurd q (by decide)) (fun _ => ?_)
      refine et_aload_n (i := 0) d_M_workText_49 rfl rfl ?_
      refine et_getf (ci := 7) 20 d_M_workText_50 g64 rfl in_M (by decide) fl_M_41 rfl ?_
      refine et_iconst (v := nI 0) d_M_workText_53 (by decide) ?_
      refine et_ialn d_M_workText_54 g74 (by omega) (by first | decide | omega) ?_
      match stk, hsl, hev, hst, g64 with
      | [c], _, hev, hst, g64 =>
        have e : sa 0 = nI c := hst 0 (show 0 < [c].length from Nat.zero_lt_one)
        rw [e]
        refine et_goto (tgt := 59) d_M_workText_55 (by decide) ?_
        exact et_iret d_M_workText_59 rfl (Nat.le_refl _) (Nat.le_refl _) ⟨rfl, fr1, _, _, g74, Or.inl ⟨c, x1, hev, rfl, g64, g1⟩⟩
    | succ t ih =>
      intro i stk x1 sa hh hi hit hev g64 g74 hst g1 fr1
      obtain ⟨j, rfl⟩ : ∃ j, i = j + 1 := ⟨i - 1, by omega⟩
      obtain ⟨w1, w2, w3⟩ := hw.2.2.2 j (by omega) (by omega)
      obtain ⟨n1, n2, n3, n4, n5⟩ := gEval_nw (B := 1000) (g := x.1) (Nat.le_refl _) hw (fun i a b c => (hvs i a b c).2) (G.mono (by omega)) (gNw.refl _) (by omega) hev
      have n6 := gEval_bd hev
      rw [sg_length] at n6
      rw [show to - (to - (j + 1)) = j + 1 by omega] at n3
      have hb := wf_le hw (to - (j + 1)) (by omega)
      rw [show to - (to - (j + 1)) = j + 1 by omega] at hb
      have hseg : sg row to (to - j) = row j :: sg row to (to - (j + 1)) := by
        rw [show to - j = (to - (j + 1)) + 1 by omega, sg, show to - (to - (j + 1) + 1) = j by omega]
      have hev2 : gEval gw 1000 vs (sg row to (to - j)) x = gPush gw 1000 vs (row j) stk x1 := by
        rw [hseg, gEval, hev]
      have ok1 : gOk 103 x1.1 := ⟨by omega, n1.1.2⟩
      have g75 : hh 75 = .inl (0, 3, .inl va) := (fr1 75 (by omega)).trans h75
      have g65 : hh 65 = .inl (0, 60, .inl row) := (fr1 65 (by omega)).trans h65
      rw [eI_s]
      refine et_iload d_M_workText_13 rfl ?_
      refine et_iload_n (i := 1) d_M_workText_15 rfl rfl ?_
      refine et_icmp_lt (tgt := 44) d_M_workText_16 (by decide) (fun q => absurd q (nI_nlt (by omega) (by omega))) (fun _ => ?_)
      refine et_iload d_M_workText_19 rfl ?_
      refine et_if_eq (tgt := 44) d_M_workText_21 (by decide) (fun q => absurd q (by decide)) (fun _ => ?_)
      refine et_aload_n (i := 0) d_M_workText_24 rfl rfl ?_
      refine et_aload_n (i := 0) d_M_workText_25 rfl rfl ?_
      refine et_getf (ci := 7) 1 d_M_workText_26 g64 rfl in_M (by decide) fl_M_7 rfl ?_
      refine et_iload d_M_workText_29 rfl ?_
      refine et_ialn d_M_workText_31 g65 (by omega) (by first | decide | omega) ?_
      refine et_iload_n (i := 3) d_M_workText_32 rfl rfl ?_
      refine et_invV mV_M_push (As := [_, _]) rfl d_M_workText_33 lk_M_136 len_M_push g64 rfl (Nat.le_of_ble_eq_true rfl) (c_M_push (d := d) gw (row j) ok1 g64 g74 g75 g1 hst n5 (by omega) w1 (by omega) (fun z => ⟨(hvs j (by omega) (by omega) z).1, Nat.lt_of_lt_of_le (hvs j (by omega) (by omega) z).2 n4⟩)) (Nat.le_refl _) (Nat.le_of_ble_eq_true rfl) (Nat.le_of_ble_eq_true rfl) (fun v h' n' hp => ?_) (fun y h' n' hp => by rcases hp.2.2 with ⟨_, _, _, -, e, -⟩ | ⟨-, e, -⟩ <;> cases e)
      obtain ⟨hn2, fr2, hres⟩ := hp
      replace hn2 := hn2.symm
      subst hn2
      have fr3 : (∀ k, (k < 64 ∨ (64 < k ∧ k < 68) ∨ (72 < k ∧ k ≠ 74)) → h' k = h k) := fun k hk => (fr2 k hk).trans (fr1 k hk)
      rcases hres with ⟨stk', x2, sa2, e, hv, k64, k74, hst2, g2⟩ | ⟨e, hv, rs2, sa2, k64, k74, g2⟩
      · cases hv
        refine et_istore (lv' := [_, _, _, _, _, _]) d_M_workText_36 (by decide) rfl rfl ?_
        refine et_iinc (lv' := [_, _, _, _, _, _]) d_M_workText_38 rfl (v := eI (j)) (et_m1 _) (by decide) rfl rfl ?_
        refine et_goto (tgt := 13) d_M_workText_41 (by decide) ?_
        exact ih j stk' x2 sa2 _ (by omega) (by omega) (hev2.trans e) k64 k74 hst2 g2 fr3
      · cases hv
        have gwf : gw = false := by
          cases gw with
          | false => rfl
          | true =>
            obtain ⟨a, b, c, -⟩ := gEval_tot (lim := 40) (lim' := 1000) (vs := vs) (w := sg row to (to - j)) (x := x) (by rw [sg_length]; omega)
            rw [hev2, e] at c
            cases c
        have hx : x = x1 := by subst gwf; exact (gEval_look hev).symm
        have hnone : gEval gw 1000 vs (sg row to (to - fr)) x = none := by
          have hgen : ∀ q, q ≤ j - fr → gEval gw 1000 vs (sg row to (to - (j - q))) x = none := by
            intro q
            induction q with
            | zero => intro _; exact hev2.trans e
            | succ q ihq =>
              intro hq
              rw [show to - (j - (q + 1)) = (to - (j - q)) + 1 by omega, sg, gEval, ihq (by omega)]
          have h2 := hgen (j - fr) (Nat.le_refl _)
          rwa [show j - (j - fr) = fr by omega] at h2
        subst hx
        refine et_istore (lv' := [_, _, _, _, _, _]) d_M_workText_36 (by decide) rfl rfl ?_
        refine et_iinc (lv' := [_, _, _, _, _, _]) d_M_workText_38 rfl (v := eI (j)) (et_m1 _) (by decide) rfl rfl ?_
        refine et_goto (tgt := 13) d_M_workText_41 (by decide) ?_
        have done : et_M sc Y_M_workText (d + 3) 0 0 (fun r h' n' => n' = n ∧ (∀ k, (k < 64 ∨ (64 < k ∧ k < 68) ∨ (72 < k ∧ k ≠ 74)) → h' k = h k) ∧ ∃ rs' sa', h' 74 = .inl (0, 62, .inl sa') ∧ ((∃ c x', gEval gw 1000 vs (sg row to (to - fr)) x = some ([c], x') ∧ r = .inl (some (.int (nI c))) ∧ h' 64 = et_Mo th le a_ wr en al se ru (nI (gN x'.1)) (nI (gC x'.1)) un rs' dc ds ∧ et_mg x' h') ∨ (gEval gw 1000 vs (sg row to (to - fr)) x = none ∧ gw = false ∧ r = .inl (some (.int (-1))) ∧ h' 64 = et_Mo th le a_ wr en al se ru (nI (gN x.1)) (nI (gC x.1)) un rs' dc ds ∧ et_mg x h'))) 44 [some (.ref 64), some (.int (nI fr)), some (.int (nI to)), some (.int (bI gw)), some (.int (0)), some (.int (eI j))] [] h' n 0 0 := by
          refine et_iload d_M_workText_44 rfl ?_
          refine et_if_eq (tgt := 58) d_M_workText_46 (by decide) (fun _ => ?_) (fun q => absurd rfl q)
          refine et_iconst (v := (-1)) d_M_workText_58 (by decide) ?_
          exact et_iret d_M_workText_59 rfl (Nat.le_refl _) (Nat.le_refl _) ⟨rfl, fr3, _, _, k74, Or.inr ⟨hnone, gwf, rfl, k64, g2⟩⟩
        refine et_iload d_M_workText_13 rfl ?_
        refine et_iload_n (i := 1) d_M_workText_15 rfl rfl ?_
        refine et_icmp_lt (tgt := 44) d_M_workText_16 (by decide) (fun q => ?_) (fun q => ?_)
        · exact done
        refine et_iload d_M_workText_19 rfl ?_
        refine et_if_eq (tgt := 44) d_M_workText_21 (by decide) (fun _ => ?_) (fun q => absurd rfl q)
        exact done
  refine et_aload_n (i := 0) d_M_workText_0 rfl rfl ?_
  refine et_iconst (v := 0) d_M_workText_1 (by decide) ?_
  refine et_putf (ci := 7) 21 d_M_workText_2 h64 rfl in_M ty_M nm_M (by decide) fl_M_129 rfl rfl (fun _ => rfl) (fun _ => rfl) (Nat.le_of_ble_eq_true rfl) (fs' := [_, _, _, _, _, _, _, _, _, _, _, _, _, _, _, _, _, _, _, _, _, _, _, _, _, _, _, _, _, _, _, _, _]) rfl ?_
  refine et_iconst (v := 1) d_M_workText_5 (by decide) ?_
  refine et_istore (lv' := [_, _, _, _, _, _]) d_M_workText_6 (by decide) rfl rfl ?_
  refine et_iload_n (i := 2) d_M_workText_8 rfl rfl ?_
  refine et_iconst (v := 1) d_M_workText_9 (by decide) ?_
  refine et_isub d_M_workText_10 ?_
  refine et_istore (lv' := [_, _, _, _, _, _]) d_M_workText_11 (by decide) rfl rfl ?_
  exact loop (to - fr) to [] x sa _ (by omega) (Nat.le_refl _) (by rw [Nat.sub_self]; rfl) rfl h74 (fun j hj => absurd hj (Nat.not_lt_zero _)) (hg.same (fun k a b => by simp [va_up, show k ≠ 64 by omega])) (fun k hk => by simp [va_up, show k ≠ 64 by omega])
set_option maxHeartbeats 4000000 in
set_option maxRecDepth 100000 in
theorem c_M_workSide {sc : et_X} {h : Nat → et_MC} {d n : Nat} {th le a_ wr en al se ru un rs : Int32} {dc ds : Int64} {x : gx} {sa va row : Nat → Int32} {vs mm : Nat → Nat} (gw : Bool) (fr to : Nat) (G : gG 40 x.1) (h64 : h 64 = et_Mo th le a_ wr en al se ru (nI (gN x.1)) (nI (gC x.1)) un rs dc ds) (h74 : h 74 = .inl (0, 62, .inl sa)) (h75 : h 75 = .inl (0, 3, .inl va)) (hg : et_mg x h) (hw : wf mm row fr to) (hvs : ∀ i, fr ≤ i → i < to → et_isv (row i) → va (row i - 97).toNatClampNeg = nI (vs (row i - 97).toNatClampNeg) ∧ vs (row i - 97).toNatClampNeg < gC x.1) {sd szs : Nat → Int32} (side : Nat) (hsd : side < 12) (h66 : h 66 = .inl (0, 84, .inl sd)) (h67 : h 67 = .inl (0, 12, .inl szs)) (hsz : szs side = nI (to - fr)) (hto7 : to - fr ≤ 7) (hrow : ∀ j, j < to - fr → sd (7 * side + j) = row (fr + j)) : et_Cn sc Y_M_workSide (d + 3) [.ref 64, .int (nI side), .int (bI gw)] h n 0 0 (fun r h' n' => n' = n ∧ (∀ k, (k < 64 ∨ (64 < k ∧ k < 68) ∨ (72 < k ∧ k ≠ 74)) → h' k = h k) ∧ ∃ rs' sa', h' 74 = .inl (0, 62, .inl sa') ∧ ((∃ c x', gEval gw 1000 vs (sg row to (to - fr)) x = some ([c], x') ∧ r = .inl (some (.int (nI c))) ∧ h' 64 = et_Mo th le a_ wr en al se ru (nI (gN x'.1)) (nI (gC x'.1)) un rs' dc ds ∧ et_mg x' h') ∨ (gEval gw 1000 vs (sg row to (to - fr)) x = none ∧ gw = false ∧ r = .inl (some (.int (-1))) ∧ h' 64 = et_Mo th le a_ wr en al se ru (nI (gN x.1)) (nI (gC x.1)) un rs' dc ds ∧ et_mg x h'))) := by
  refine et_Cn.of 2 rfl rfl (by decide) mV_M_workSide.1 ?_
  have hfr := hw.1
  have hN40 := G.1.1
  have hto60 : to - fr ≤ 60 := by omega
  have loop : ∀ (t i : Nat) (stk : List Nat) (x1 : gx) (sa : Nat → Int32) (hh : Nat → et_MC), i = fr + t → i ≤ to → gEval gw 1000 vs (sg row to (to - i)) x = some (stk, x1) → hh 64 = et_Mo th le a_ wr en al se ru (nI (gN x1.1)) (nI (gC x1.1)) un (nI stk.length) dc ds → hh 74 = .inl (0, 62, .inl sa) → (∀ j (hj : j < stk.length), sa (stk.length - 1 - j) = nI stk[j]) → et_mg x1 hh → (∀ k, (k < 64 ∨ (64 < k ∧ k < 68) ∨ (72 < k ∧ k ≠ 74)) → hh k = h k) → et_M sc Y_M_workSide (d + 3) 0 0 (fun r h' n' => n' = n ∧ (∀ k, (k < 64 ∨ (64 < k ∧ k < 68) ∨ (72 < k ∧ k ≠ 74)) → h' k = h k) ∧ ∃ rs' sa', h' 74 = .inl (0, 62, .inl sa') ∧ ((∃ c x', gEval gw 1000 vs (sg row to (to - fr)) x = some ([c], x') ∧ r = .inl (some (.int (nI c))) ∧ h' 64 = et_Mo th le a_ wr en al se ru (nI (gN x'.1)) (nI (gC x'.1)) un rs' dc ds ∧ et_mg x' h') ∨ (gEval gw 1000 vs (sg row to (to - fr)) x = none ∧ gw = false ∧ r = .inl (some (.int (-1))) ∧ h' 64 = et_Mo th le a_ wr en al se ru (nI (gN x.1)) (nI (gC x.1)) un rs' dc ds ∧ et_mg x h'))) 17 [some (.ref 64), some (.int (nI side)), some (.int (bI gw)), some (.int (1)), some (.int (eI (i - fr)))] [] hh n 0 0 := by
    intro t
    induction t with
    | zero =>
      intro i stk x1 sa hh hi hit hev g64 g74 hst g1 fr1
      obtain rfl : i = fr := by omega
      have hsl := (gEval_nw (B := 1000) (g := x.1) (Nat.le_refl _) hw (fun i a b c => (hvs i a b c).2) (G.mono (by omega)) (gNw.refl _) (Nat.le_refl _) hev).2.2.1
      rw [show to - (to - i) = i by omega, hw.2.1] at hsl
      rw [Nat.sub_self]
      refine et_iload d_M_workSide_17 rfl ?_
      refine et_if_lt (tgt := 50) d_M_workSide_19 (by decide) (fun _ => ?_) (fun q => absurd (by decide) q)
      refine et_iload_n (i := 3) d_M_workSide_50 rfl rfl ?_
      refine et_if_eq (tgt := 63) d_M_workSide_51 (by decide) (fun q => absurd q (by decide)) (fun _ => ?_)
      refine et_aload_n (i := 0) d_M_workSide_54 rfl rfl ?_
      refine et_getf (ci := 7) 20 d_M_workSide_55 g64 rfl in_M (by decide) fl_M_41 rfl ?_
      refine et_iconst (v := nI 0) d_M_workSide_58 (by decide) ?_
      refine et_ialn d_M_workSide_59 g74 (by omega) (by first | decide | omega) ?_
      match stk, hsl, hev, hst, g64 with
      | [c], _, hev, hst, g64 =>
        have e : sa 0 = nI c := hst 0 (show 0 < [c].length from Nat.zero_lt_one)
        rw [e]
        refine et_goto (tgt := 64) d_M_workSide_60 (by decide) ?_
        exact et_iret d_M_workSide_64 rfl (Nat.le_refl _) (Nat.le_refl _) ⟨rfl, fr1, _, _, g74, Or.inl ⟨c, x1, hev, rfl, g64, g1⟩⟩
    | succ t ih =>
      intro i stk x1 sa hh hi hit hev g64 g74 hst g1 fr1
      obtain ⟨j, rfl⟩ : ∃ j, i = j + 1 := ⟨i - 1, by omega⟩
      obtain ⟨w1, w2, w3⟩ := hw.2.2.2 j (by omega) (by omega)
      obtain ⟨n1, n2, n3, n4, n5⟩ := gEval_nw (B := 1000) (g := x.1) (Nat.le_refl _) hw (fun i a b c => (hvs i a b c).2) (G.mono (by omega)) (gNw.refl _) (by omega) hev
      have n6 := gEval_bd hev
      rw [sg_length] at n6
      rw [show to - (to - (j + 1)) = j + 1 by omega] at n3
      have hb := wf_le hw (to - (j + 1)) (by omega)
      rw [show to - (to - (j + 1)) = j + 1 by omega] at hb
      have hseg : sg row to (to - j) = row j :: sg row to (to - (j + 1)) := by
        rw [show to - j = (to - (j + 1)) + 1 by omega, sg, show to - (to - (j + 1) + 1) = j by omega]
      have hev2 : gEval gw 1000 vs (sg row to (to - j)) x = gPush gw 1000 vs (row j) stk x1 := by
        rw [hseg, gEval, hev]
      have ok1 : gOk 103 x1.1 := ⟨by omega, n1.1.2⟩
      have g75 : hh 75 = .inl (0, 3, .inl va) := (fr1 75 (by omega)).trans h75
      have g66 : hh 66 = .inl (0, 84, .inl sd) := (fr1 66 (by omega)).trans h66
      rw [show j + 1 - fr = (j - fr) + 1 by omega, eI_s]
      refine et_iload d_M_workSide_17 rfl ?_
      refine et_if_lt (tgt := 50) d_M_workSide_19 (by decide) (fun q => absurd q (nI_n0 (by omega))) (fun _ => ?_)
      refine et_iload_n (i := 3) d_M_workSide_22 rfl rfl ?_
      refine et_if_eq (tgt := 50) d_M_workSide_23 (by decide) (fun q => absurd q (by decide)) (fun _ => ?_)
      refine et_aload_n (i := 0) d_M_workSide_26 rfl rfl ?_
      refine et_aload_n (i := 0) d_M_workSide_27 rfl rfl ?_
      refine et_getf (ci := 7) 9 d_M_workSide_28 g64 rfl in_M (by decide) fl_M_17 rfl ?_
      refine et_bipush (v := nI 7) d_M_workSide_31 (by decide) ?_
      refine et_iload_n (i := 1) d_M_workSide_33 rfl rfl ?_
      refine et_imul d_M_workSide_34 ?_
      rw [nI_mul]
      refine et_iload d_M_workSide_35 rfl ?_
      refine et_iadd d_M_workSide_37 ?_
      rw [nI_add]
      refine et_ialn d_M_workSide_38 g66 (by omega) (by first | decide | omega) ?_
      rw [hrow (j - fr) (by omega), show fr + (j - fr) = j by omega]
      refine et_iload_n (i := 2) d_M_workSide_39 rfl rfl ?_
      refine et_invV mV_M_push (As := [_, _]) rfl d_M_workSide_40 lk_M_136 len_M_push g64 rfl (Nat.le_of_ble_eq_true rfl) (c_M_push (d := d) gw (row j) ok1 g64 g74 g75 g1 hst n5 (by omega) w1 (by omega) (fun z => ⟨(hvs j (by omega) (by omega) z).1, Nat.lt_of_lt_of_le (hvs j (by omega) (by omega) z).2 n4⟩)) (Nat.le_refl _) (Nat.le_of_ble_eq_true rfl) (Nat.le_of_ble_eq_true rfl) (fun v h' n' hp => ?_) (fun y h' n' hp => by rcases hp.2.2 with ⟨_, _, _, -, e, -⟩ | ⟨-, e, -⟩ <;> cases e)
      obtain ⟨hn2, fr2, hres⟩ := hp
      replace hn2 := hn2.symm
      subst hn2
      have fr3 : (∀ k, (k < 64 ∨ (64 < k ∧ k < 68) ∨ (72 < k ∧ k ≠ 74)) → h' k = h k) := fun k hk => (fr2 k hk).trans (fr1 k hk)
      rcases hres with ⟨stk', x2, sa2, e, hv, k64, k74, hst2, g2⟩ | ⟨e, hv, rs2, sa2, k64, k74, g2⟩
      · cases hv
        refine et_istore_n (i := 3) (lv' := [_, _, _, _, _]) d_M_workSide_43 rfl (by decide) rfl rfl ?_
        refine et_iinc (lv' := [_, _, _, _, _]) d_M_workSide_44 rfl (v := eI (j - fr)) (et_m1 _) (by decide) rfl rfl ?_
        refine et_goto (tgt := 17) d_M_workSide_47 (by decide) ?_
        exact ih j stk' x2 sa2 _ (by omega) (by omega) (hev2.trans e) k64 k74 hst2 g2 fr3
      · cases hv
        have gwf : gw = false := by
          cases gw with
          | false => rfl
          | true =>
            obtain ⟨a, b, c, -⟩ := gEval_tot (lim := 40) (lim' := 1000) (vs := vs) (w := sg row to (to - j)) (x := x) (by rw [sg_length]; omega)
            rw [hev2, e] at c
            cases c
        have hx : x = x1 := by subst gwf; exact (gEval_look hev).symm
        have hnone : gEval gw 1000 vs (sg row to (to - fr)) x = none := by
          have hgen : ∀ q, q ≤ j - fr → gEval gw 1000 vs (sg row to (to - (j - q))) x = none := by
            intro q
            induction q with
            | zero => intro _; exact hev2.trans e
            | succ q ihq =>
              intro hq
              rw [show to - (j - (q + 1)) = (to - (j - q)) + 1 by omega, sg, gEval, ihq (by omega)]
          have h2 := hgen (j - fr) (Nat.le_refl _)
          rwa [show j - (j - fr) = fr by omega] at h2
        subst hx
        refine et_istore_n (i := 3) (lv' := [_, _, _, _, _]) d_M_workSide_43 rfl (by decide) rfl rfl ?_
        refine et_iinc (lv' := [_, _, _, _, _]) d_M_workSide_44 rfl (v := eI (j - fr)) (et_m1 _) (by decide) rfl rfl ?_
        refine et_goto (tgt := 17) d_M_workSide_47 (by decide) ?_
        have done : et_M sc Y_M_workSide (d + 3) 0 0 (fun r h' n' => n' = n ∧ (∀ k, (k < 64 ∨ (64 < k ∧ k < 68) ∨ (72 < k ∧ k ≠ 74)) → h' k = h k) ∧ ∃ rs' sa', h' 74 = .inl (0, 62, .inl sa') ∧ ((∃ c x', gEval gw 1000 vs (sg row to (to - fr)) x = some ([c], x') ∧ r = .inl (some (.int (nI c))) ∧ h' 64 = et_Mo th le a_ wr en al se ru (nI (gN x'.1)) (nI (gC x'.1)) un rs' dc ds ∧ et_mg x' h') ∨ (gEval gw 1000 vs (sg row to (to - fr)) x = none ∧ gw = false ∧ r = .inl (some (.int (-1))) ∧ h' 64 = et_Mo th le a_ wr en al se ru (nI (gN x.1)) (nI (gC x.1)) un rs' dc ds ∧ et_mg x h'))) 50 [some (.ref 64), some (.int (nI side)), some (.int (bI gw)), some (.int (0)), some (.int (eI (j - fr)))] [] h' n 0 0 := by
          refine et_iload_n (i := 3) d_M_workSide_50 rfl rfl ?_
          refine et_if_eq (tgt := 63) d_M_workSide_51 (by decide) (fun _ => ?_) (fun q => absurd rfl q)
          refine et_iconst (v := (-1)) d_M_workSide_63 (by decide) ?_
          exact et_iret d_M_workSide_64 rfl (Nat.le_refl _) (Nat.le_refl _) ⟨rfl, fr3, _, _, k74, Or.inr ⟨hnone, gwf, rfl, k64, g2⟩⟩
        refine et_iload d_M_workSide_17 rfl ?_
        refine et_if_lt (tgt := 50) d_M_workSide_19 (by decide) (fun q => ?_) (fun q => ?_)
        · exact done
        refine et_iload_n (i := 3) d_M_workSide_22 rfl rfl ?_
        refine et_if_eq (tgt := 50) d_M_workSide_23 (by decide) (fun _ => ?_) (fun q => absurd rfl q)
        exact done
  refine et_aload_n (i := 0) d_M_workSide_0 rfl rfl ?_
  refine et_iconst (v := 0) d_M_workSide_1 (by decide) ?_
  refine et_putf (ci := 7) 21 d_M_workSide_2 h64 rfl in_M ty_M nm_M (by decide) fl_M_129 rfl rfl (fun _ => rfl) (fun _ => rfl) (Nat.le_of_ble_eq_true rfl) (fs' := [_, _, _, _, _, _, _, _, _, _, _, _, _, _, _, _, _, _, _, _, _, _, _, _, _, _, _, _, _, _, _, _, _]) rfl ?_
  refine et_iconst (v := 1) d_M_workSide_5 (by decide) ?_
  refine et_istore_n (i := 3) (lv' := [_, _, _, _, _]) d_M_workSide_6 rfl (by decide) rfl rfl ?_
  refine et_aload_n (i := 0) d_M_workSide_7 rfl rfl ?_
  refine et_getf (ci := 7) 10 d_M_workSide_8 rfl rfl in_M (by decide) fl_M_20 rfl ?_
  refine et_iload_n (i := 1) d_M_workSide_11 rfl rfl ?_
  refine et_ialn d_M_workSide_12 h67 (by omega) (by first | decide | omega) ?_
  rw [hsz]
  refine et_iconst (v := 1) d_M_workSide_13 (by decide) ?_
  refine et_isub d_M_workSide_14 ?_
  refine et_istore (lv' := [_, _, _, _, _]) d_M_workSide_15 (by decide) rfl rfl ?_
  exact loop (to - fr) to [] x sa _ (by omega) (Nat.le_refl _) (by rw [Nat.sub_self]; rfl) rfl h74 (fun j hj => absurd hj (Nat.not_lt_zero _)) (hg.same (fun k a b => by simp [va_up, show k ≠ 64 by omega])) (fun k hk => by simp [va_up, show k ≠ 64 by omega])
