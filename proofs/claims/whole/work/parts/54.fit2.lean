set_option maxHeartbeats 4000000 in
set_option maxRecDepth 100000 in
theorem c_R_fitFrom {sc : et_X} {d n : Nat} {g0 : gr} {k e len : Nat} {row : Nat → Int32} (hk : 85 ≤ k) (hr : rOk row e len) (G0 : gG 40 g0) : ∀ (t p : Nat) (h : Nat → et_MC) (y : gx) (ch : Bool) (se vt : Nat → Nat), p + t = e → rdI 40 g0 y → et_RU k row e len h → et_LS g0 h → et_RH y ch se vt h → se 0 < gC g0 → (∀ q, q ∈ stN row e (e - p) → se q < gC g0) → (∀ v, v < 3 → inF row (nI (97 + v)) p = true → vt v < gC g0) → et_Cn sc Y_R_fitFrom (d + 4 + t) [.ref 13, .ref k, .int (nI p)] h n 0 0 (fun r h' n' => n' = n ∧ ftP g0 row e len y ch se vt p r h h') := by
  obtain ⟨⟨m1, hw⟩, ⟨m2, hw2⟩, r3, r4, r5, r6⟩ := id hr
  have idx : ∀ i, et_isv (row i) → row i = nI (97 + (row i - 97).toNatClampNeg) ∧ (row i - 97).toNatClampNeg < 3 := fun i hv => ⟨isv_nI hv, (et_isv_in hv).1⟩
  intro t
  induction t with
  | zero =>
    intro p h y ch se vt hp I hU hL hR h0 hse hvt
    obtain rfl : p = e := by omega
    have hvt' : ∀ i, i < p → et_isv (row i) → vt (row i - 97).toNatClampNeg < gC g0 := fun i hi hv => hvt _ (idx i hv).2 (by rw [← (idx i hv).1]; exact inF_iff.mpr ⟨i, hi, rfl⟩)
    have hvt2 : ∀ j, p < j → j < len → et_isv (row j) → vt (row j - 97).toNatClampNeg < gC g0 := fun j h1 h2 hv => hvt _ (idx j hv).2 (by rw [← (idx j hv).1]; exact r6 j h1 h2 hv)
    obtain ⟨u0, -⟩ := id hU
    obtain ⟨-, -, -, -, h13, -⟩ := id hR
    refine et_Cn.of 3 rfl rfl (by decide) mV_R_fitFrom.1 ?_
    refine et_iload_n (i := 2) d_R_fitFrom_0 rfl rfl ?_
    refine et_aload_n (i := 1) d_R_fitFrom_1 rfl rfl ?_
    refine et_getf (ci := 3) 1 d_R_fitFrom_2 u0 rfl in_U (by decide) fl_R_59 rfl ?_
    refine et_icmp_ge (tgt := 14) d_R_fitFrom_5 (by decide) (fun _ => ?_) (fun q => absurd (nI_le (Nat.le_refl _) (by omega)) q)
    refine et_aload_n (i := 0) d_R_fitFrom_14 rfl rfl ?_
    refine et_aload_n (i := 1) d_R_fitFrom_15 rfl rfl ?_
    refine et_invV mV_R_joinSides (As := [_]) rfl d_R_fitFrom_16 lk_R_64 len_R_joinSides h13 rfl (Nat.le_of_ble_eq_true rfl) (c_R_joinSides (d := d) hk I hr hU hR h0 hvt2) (Nat.le_refl _) (Nat.le_of_ble_eq_true rfl) (Nat.le_of_ble_eq_true rfl) (fun v hb n' hp => ?_) (fun x h' n' hp => by rcases hp.2.2 with ⟨s, -, e, -⟩ | ⟨-, e, -⟩ <;> cases e)
    obtain ⟨hn2, fr, hres⟩ := hp
    have hm : mtV g0 row p se vt vt p := ⟨mt_end.mpr (fun _ _ _ => rfl), hvt'⟩
    rcases hres with ⟨s', e1, hv, hR'⟩ | ⟨e1, hv, x', le', ok', hR'⟩
    · cases hv
      have I' := doA_ok (a := (se 0, sg row len (len - (p + 1)), vt)) (Nat.le_refl _) I h0 rfl hw2 (fun i h1 h2 h3 => hvt2 i h1 h2 h3) e1
      exact et_zret d_R_fitFrom_19 rfl rfl (Nat.le_refl _) (Nat.le_refl _) ⟨hn2, fr, [(se 0, sg row len (len - (p + 1)), vt)], s'.1, s'.2, se, vt, fun a ha => by rw [List.mem_singleton.mp ha]; exact ⟨rfl, rfl, hm⟩, fun _ _ => rfl, fun _ _ _ => rfl, hR', Or.inl ⟨rfl, by rw [runA, e1]; rfl, I', fun th hth => ⟨_, List.mem_singleton.mpr rfl, fun v h1 h2 => (hth.1.1 v h1 h2).symm⟩⟩⟩
    · cases hv
      exact et_zret d_R_fitFrom_19 rfl rfl (Nat.le_refl _) (Nat.le_refl _) ⟨hn2, fr, [], x', ch, se, vt, fun a ha => absurd ha List.not_mem_nil, fun _ _ => rfl, fun _ _ _ => rfl, hR', Or.inr ⟨rfl, le', ok', (y, ch), vt, rfl, I, hm, e1⟩⟩
  | succ t ih =>
    intro p h y ch se vt hp I hU hL hR h0 hse hvt
    obtain ⟨u0, u3, ⟨sp, u1, hsp⟩, bd, u2, hbd⟩ := id hU
    obtain ⟨hg, h10, ⟨va, h11, hva⟩, ⟨st, h12⟩, h13, sa, h14, hsa⟩ := id hR
    have hpe : p < e := by omega
    have hsep : se p < gC g0 := hse p (by rw [stN_step hpe]; exact List.mem_cons_self)
    have o1 := G0.1.1
    have o2 := G0.1.2.1
    have hz : 0 < p ∨ 0 ∈ stN row e (e - p) := by
      rcases Nat.eq_zero_or_pos p with z | z
      · rw [z] at hpe ⊢; rw [stN_step hpe]; exact Or.inr List.mem_cons_self
      · exact Or.inl z
    refine et_Cn.of 3 rfl rfl (by decide) mV_R_fitFrom.1 ?_
    refine et_iload_n (i := 2) d_R_fitFrom_0 rfl rfl ?_
    refine et_aload_n (i := 1) d_R_fitFrom_1 rfl rfl ?_
    refine et_getf (ci := 3) 1 d_R_fitFrom_2 u0 rfl in_U (by decide) fl_R_59 rfl ?_
    refine et_icmp_ge (tgt := 14) d_R_fitFrom_5 (by decide) (fun q => absurd q (nI_ge (by omega) (by omega))) (fun _ => ?_)
    refine et_iload_n (i := 2) d_R_fitFrom_8 rfl rfl ?_
    refine et_bipush (v := 7) d_R_fitFrom_9 (by decide) ?_
    refine et_icmp_lt (tgt := 20) d_R_fitFrom_11 (by decide) (fun _ => ?_) (fun q => absurd (show nI p < (7 : Int32) from nI_lt (b := 7) (by omega) (by decide)) q)
    refine et_aload_n (i := 1) d_R_fitFrom_20 rfl rfl ?_
    refine et_getf (ci := 3) 0 d_R_fitFrom_21 u0 rfl in_U (by decide) fl_R_68 rfl ?_
    refine et_iload_n (i := 2) d_R_fitFrom_24 rfl rfl ?_
    refine et_ialn d_R_fitFrom_25 u3 (by omega) (by first | decide | omega) ?_
    refine et_istore_n (i := 3) (lv' := [_, _, _, _, _, _]) d_R_fitFrom_26 rfl (by decide) rfl rfl ?_
    refine et_iload_n (i := 3) d_R_fitFrom_27 rfl rfl ?_
    refine et_invS mS_S_isVariable (As := [_]) rfl d_R_fitFrom_28 lk_R_71 len_S_isVariable (Nat.le_of_ble_eq_true rfl) (c_S_isVariable (d := d) (row p)) (by omega) (Nat.le_of_ble_eq_true rfl) (Nat.le_of_ble_eq_true rfl) (fun v h' n' hp => ?_) (fun x h' n' hp => by cases hp.1)
    obtain ⟨hv, hn2, hh2⟩ := hp
    cases hv
    replace hn2 := hn2.symm
    subst hn2
    replace hh2 := hh2.symm
    subst hh2
    by_cases ev : et_isv (row p)
    · rw [if_pos ev]
      obtain ⟨i1, i2, i3⟩ := et_isv_in ev
      have e0 : pw (row p) = 0 := pw_0 (by rw [et_pp, if_pos ev])
      have hst : stN row e (e - p) = p :: stN row e (e - (p + 1)) := by rw [stN_step hpe, e0, List.drop_zero]
      refine et_if_eq (tgt := 99) d_R_fitFrom_31 (by decide) (fun q => absurd q (by decide)) (fun _ => ?_)
      refine et_aload_n (i := 1) d_R_fitFrom_34 rfl rfl ?_
      refine et_getf (ci := 3) 3 d_R_fitFrom_35 u0 rfl in_U (by decide) fl_R_77 rfl ?_
      refine et_iload_n (i := 2) d_R_fitFrom_38 rfl rfl ?_
      refine et_zald d_R_fitFrom_39 u2 (vp_in_nI (show p < 7 by omega) (by decide)) ?_
      rw [nI_clamp (by omega), hbd p hpe ev]
      -- the comparison, and the way on
      have cmp : ∀ (vt' : Nat → Nat) (hh : Nat → et_MC), et_RH y ch se vt' hh → et_f14 h hh → (vt' (row p - 97).toNatClampNeg < 2 ^ 31) → (∀ v, v < 3 → inF row (nI (97 + v)) p = true → vt' v = vt v) → (vt' (row p - 97).toNatClampNeg = se p → (∀ v, v < 3 → inF row (nI (97 + v)) (p + 1) = true → vt' v < gC g0) ∧ ∀ th, mtV g0 row e se vt th p ↔ mtV g0 row e se vt' th (p + 1)) → (vt' (row p - 97).toNatClampNeg ≠ se p → ∀ th, ¬ mtV g0 row e se vt th p) → et_M sc Y_R_fitFrom (d + 4 + (t + 1)) 0 0 (fun r h' n' => n' = n ∧ ftP g0 row e len y ch se vt p r h h') 61 [some (.ref 13), some (.ref k), some (.int (nI p)), some (.int (row p)), none, none] [] hh n 0 0 := by
        intro vt' hh hR2 fr2 hlt hkeep hyes hno
        obtain ⟨hg2, g10, ⟨va2, g11, hva2⟩, ⟨st2, g12⟩, g13, sa2, g14, hsa2⟩ := id hR2
        refine et_aload_n (i := 0) d_R_fitFrom_61 rfl rfl ?_
        refine et_getf (ci := 2) 2 d_R_fitFrom_62 g13 rfl in_R (by decide) fl_R_29 rfl ?_
        refine et_getf (ci := 5) 0 d_R_fitFrom_65 g10 rfl in_K (by decide) fl_R_81 rfl ?_
        refine et_iload_n (i := 3) d_R_fitFrom_68 rfl rfl ?_
        refine et_bipush (v := 97) d_R_fitFrom_69 (by decide) ?_
        refine et_isub d_R_fitFrom_71 ?_
        rw [i2]
        refine et_ialn d_R_fitFrom_72 g11 (by omega) (by first | decide | omega) ?_
        rw [hva2 _ i1]
        refine et_aload_n (i := 0) d_R_fitFrom_73 rfl rfl ?_
        refine et_getf (ci := 2) 3 d_R_fitFrom_74 g13 rfl in_R (by decide) fl_R_15 rfl ?_
        refine et_iload_n (i := 2) d_R_fitFrom_77 rfl rfl ?_
        refine et_ialn d_R_fitFrom_78 g14 (by omega) (by first | decide | omega) ?_
        rw [hsa2 p (by omega)]
        refine et_icmp_ne (tgt := 93) d_R_fitFrom_79 (by decide) (fun q => ?_) (fun q => ?_)
        · have q2 : vt' (row p - 97).toNatClampNeg ≠ se p := fun z => q (by rw [z])
          refine et_iconst (v := 1) d_R_fitFrom_93 (by decide) ?_
          refine et_goto (tgt := 98) d_R_fitFrom_94 (by decide) ?_
          exact et_zret d_R_fitFrom_98 rfl rfl (Nat.le_of_ble_eq_true rfl) (Nat.le_of_ble_eq_true rfl) ⟨rfl, fr2, [], y, ch, se, vt', fun a ha => absurd ha List.not_mem_nil, fun _ _ => rfl, hkeep, hR2, Or.inl ⟨rfl, rfl, I, fun th hth => absurd hth (hno q2 th)⟩⟩
        · have q2 : vt' (row p - 97).toNatClampNeg = se p := (nI_eq hlt (by omega)).mp q
          obtain ⟨y1, y2⟩ := hyes q2
          refine et_aload_n (i := 0) d_R_fitFrom_82 rfl rfl ?_
          refine et_aload_n (i := 1) d_R_fitFrom_83 rfl rfl ?_
          refine et_iload_n (i := 2) d_R_fitFrom_84 rfl rfl ?_
          refine et_iconst (v := 1) d_R_fitFrom_85 (by decide) ?_
          refine et_iadd d_R_fitFrom_86 ?_
          rw [nI_1]
          refine et_invV mV_R_fitFrom (As := [_, _]) rfl d_R_fitFrom_87 lk_R_45 len_R_fitFrom g13 rfl (Nat.le_of_ble_eq_true rfl) (ih (p + 1) hh y ch se vt' (by omega) I (hU.same hk (fun q hq => fr2 q (by omega))) (by obtain ⟨b15, b16, bg, ls, z1, z2, z3⟩ := hL; exact ⟨b15, b16, bg, ls, (fr2 15 (by omega)).trans z1, (fr2 16 (by omega)).trans z2, z3⟩) hR2 h0 (fun q hq => hse q (by rw [hst]; exact List.mem_cons_of_mem _ hq)) y1) (Nat.le_refl _) (Nat.le_of_ble_eq_true rfl) (Nat.le_of_ble_eq_true rfl) (fun v h3 n' hp => ?_) (fun x h' n' hp => by obtain ⟨-, -, A, y', ch', se', vt', -, -, -, -, ⟨e, -⟩ | ⟨e, -⟩⟩ := hp <;> cases e)
          obtain ⟨hn2, fr3, A, y', ch', se', vt3, a1, a2, a3, a4, a5⟩ := hp
          replace hn2 := hn2.symm
          subst hn2
          have frT : et_f14 h h3 := fun q hq => (fr3 q hq).trans (fr2 q hq)
          have a1' : ∀ a ∈ A, a.1 = se 0 ∧ a.2.1 = sg row len (len - (e + 1)) ∧ mtV g0 row e se vt a.2.2 p := fun a ha => ⟨(a1 a ha).1, (a1 a ha).2.1, (y2 _).mpr (a1 a ha).2.2⟩
          have a2' : ∀ q, q < p ∨ q ∈ stN row e (e - p) → se' q = se q := fun q hq => a2 q (by rw [hst] at hq; rcases hq with z | z; exact Or.inl (by omega); rcases List.mem_cons.mp z with z | z; exact Or.inl (by omega); exact Or.inr z)
          have a3' : ∀ v, v < 3 → inF row (nI (97 + v)) p = true → vt3 v = vt v := fun v h1 h2 => (a3 v h1 (inF_succ.mpr (Or.inl h2))).trans (hkeep v h1 h2)
          rcases a5 with ⟨hv, b1, b2, b3⟩ | ⟨hv, b1, b2, s1, th, b3, b4, b5, b6⟩
          · cases hv
            refine et_if_eq (tgt := 97) d_R_fitFrom_90 (by decide) (fun q => absurd q (by decide)) (fun _ => ?_)
            refine et_iconst (v := 1) d_R_fitFrom_93 (by decide) ?_
            refine et_goto (tgt := 98) d_R_fitFrom_94 (by decide) ?_
            exact et_zret d_R_fitFrom_98 rfl rfl (Nat.le_of_ble_eq_true rfl) (Nat.le_of_ble_eq_true rfl) ⟨rfl, frT, A, y', ch', se', vt3, a1', a2', a3', a4, Or.inl ⟨rfl, b1, b2, fun th hth => b3 th ((y2 th).mp hth)⟩⟩
          · cases hv
            refine et_if_eq (tgt := 97) d_R_fitFrom_90 (by decide) (fun _ => ?_) (fun q => absurd (by decide) q)
            refine et_iconst (v := 0) d_R_fitFrom_97 (by decide) ?_
            exact et_zret d_R_fitFrom_98 rfl rfl (Nat.le_of_ble_eq_true rfl) (Nat.le_of_ble_eq_true rfl) ⟨rfl, frT, A, y', ch', se', vt3, a1', a2', a3', a4, Or.inr ⟨rfl, b1, b2, s1, th, b3, b4, (y2 th).mpr b5, b6⟩⟩
      cases hi : inF row (row p) p with
      | false =>
        refine et_if_eq (tgt := 61) d_R_fitFrom_40 (by decide) (fun q => absurd q (by decide)) (fun _ => ?_)
        refine et_aload_n (i := 0) d_R_fitFrom_43 rfl rfl ?_
        refine et_getf (ci := 2) 2 d_R_fitFrom_44 h13 rfl in_R (by decide) fl_R_29 rfl ?_
        refine et_getf (ci := 5) 0 d_R_fitFrom_47 h10 rfl in_K (by decide) fl_R_81 rfl ?_
        refine et_iload_n (i := 3) d_R_fitFrom_50 rfl rfl ?_
        refine et_bipush (v := 97) d_R_fitFrom_51 (by decide) ?_
        refine et_isub d_R_fitFrom_53 ?_
        rw [i2]
        refine et_aload_n (i := 0) d_R_fitFrom_54 rfl rfl ?_
        refine et_getf (ci := 2) 3 d_R_fitFrom_55 h13 rfl in_R (by decide) fl_R_15 rfl ?_
        refine et_iload_n (i := 2) d_R_fitFrom_58 rfl rfl ?_
        refine et_ialn d_R_fitFrom_59 h14 (by omega) (by first | decide | omega) ?_
        rw [hsa p (by omega)]
        refine et_iasn d_R_fitFrom_60 h11 (by omega) (by first | decide | omega) ?_
        refine cmp (gUp vt (row p - 97).toNatClampNeg (se p)) _ ⟨hg.same (fun q e1 e2 => va_ne (by omega)), h10, ⟨_, rfl, fun v hv3 => ?_⟩, ⟨st, h12⟩, h13, sa, h14, hsa⟩ (fun q hq => va_ne (by omega)) (by rw [gUp_s]; omega) (fun v h1 h2 => gUp_n _ _ (fun z => by rw [z, ← i3, hi] at h2; cases h2)) (fun _ => ⟨fun v h1 h2 => ?_, fun th => ?_⟩) (fun z => absurd (gUp_s _ _ _) z)
        · by_cases ez : v = (row p - 97).toNatClampNeg
          · rw [ez, pk_us, gUp_s]
          · rw [pk_un ez, gUp_n _ _ ez]; exact hva v hv3
        · by_cases ez : v = (row p - 97).toNatClampNeg
          · rw [ez, gUp_s]; exact hsep
          · rw [gUp_n _ _ ez]
            rcases inF_succ.mp h2 with z | z
            · exact hvt v h1 z
            · rw [i3] at z; exact absurd ((nI_97 i1 h1).mp z).symm ez
        · exact and_congr_left fun _ => mt_new hpe ev hi
      | true =>
        refine et_if_eq (tgt := 61) d_R_fitFrom_40 (by decide) (fun _ => ?_) (fun q => absurd rfl q)
        have hb := hvt _ i1 (by rw [← i3]; exact hi)
        refine cmp vt _ hR (fun _ _ => rfl) (by omega) (fun _ _ _ => rfl) (fun z => ⟨fun v h1 h2 => ?_, fun th => ?_⟩) (fun z th hth => z ((mt_old hpe ev hi).mp hth.1).1)
        · rcases inF_succ.mp h2 with z | z
          · exact hvt v h1 z
          · rw [i3] at z; rw [← (nI_97 i1 h1).mp z]; exact hb
        · refine and_congr_left fun _ => ?_
          rw [mt_old hpe ev hi]
          exact ⟨fun w => w.2, fun w => ⟨z, w⟩⟩
    · rw [if_neg ev]
      obtain ⟨b15, b16, bg, ls, l15, l16, lb, ll, lm, l40, lin, lall⟩ := id hL
      have hst : stN row e (e - p) = p :: (stN row e (e - (p + 1))).drop (pw (row p)) := stN_step hpe
      have fst : ∀ v, v < 3 → (inF row (nI (97 + v)) (p + 1) = true → inF row (nI (97 + v)) p = true) := fun v hv3 hi => by
        rcases inF_succ.mp hi with z | z
        · exact z
        · exfalso
          apply ev
          rw [z]
          rcases (show v = 0 ∨ v = 1 ∨ v = 2 by omega) with rfl | rfl | rfl <;> decide
      refine et_if_eq (tgt := 99) d_R_fitFrom_31 (by decide) (fun _ => ?_) (fun q => absurd (by decide) q)
      refine et_aload_n (i := 0) d_R_fitFrom_99 rfl rfl ?_
      refine et_getf (ci := 2) 3 d_R_fitFrom_100 h13 rfl in_R (by decide) fl_R_15 rfl ?_
      refine et_iload_n (i := 2) d_R_fitFrom_103 rfl rfl ?_
      refine et_ialn d_R_fitFrom_104 h14 (by omega) (by first | decide | omega) ?_
      rw [hsa p (by omega)]
      refine et_istore (lv' := [_, _, _, _, _, _]) d_R_fitFrom_105 (by decide) rfl rfl ?_
      refine et_aload_n (i := 0) d_R_fitFrom_107 rfl rfl ?_
      refine et_getf (ci := 2) 5 d_R_fitFrom_108 h13 rfl in_R (by decide) fl_R_22 rfl ?_
      refine et_iload d_R_fitFrom_111 rfl ?_
      refine et_ialn d_R_fitFrom_113 l16 (by omega) (by first | decide | omega) ?_
      rw [lb _ (by omega)]
      refine et_istore (lv' := [_, _, _, _, _, _]) d_R_fitFrom_114 (by decide) rfl rfl ?_
      have lb1 := lm (se p) hsep
      have loop : ∀ (u i : Nat) (A : List gact) (y1 : gx) (ch1 : Bool) (se1 vt1 : Nat → Nat) (hh : Nat → et_MC), i + u = bg (se p + 1) → bg (se p) ≤ i → (∀ a ∈ A, a.1 = se 0 ∧ a.2.1 = sg row len (len - (e + 1)) ∧ mtV g0 row e se vt a.2.2 p) → (∀ q, q < p ∨ q ∈ stN row e (e - p) → se1 q = se q) → (∀ v, v < 3 → inF row (nI (97 + v)) p = true → vt1 v = vt v) → et_RH y1 ch1 se1 vt1 hh → et_f14 h hh → runA 40 A (y, ch) = some (y1, ch1) → rdI 40 g0 y1 → (∀ j, bg (se p) ≤ j → j < i → gS g0 (ls j) = row p → ∀ th, mtV g0 row e (seU g0 (pw (row p)) ((stN row e (e - (p + 1))).getD 1 e) p (ls j) se) vt th (p + 1) → ∃ a ∈ A, ∀ v, v < 3 → inF row (nI (97 + v)) e = true → a.2.2 v = th v) → et_M sc Y_R_fitFrom (d + 4 + (t + 1)) 0 0 (fun r h' n' => n' = n ∧ ftP g0 row e len y ch se vt p r h h') 116 [some (.ref 13), some (.ref k), some (.int (nI p)), some (.int (row p)), some (.int (nI (se p))), some (.int (nI i))] [] hh n 0 0 := by
        intro u
        induction u with
        | zero =>
          intro i A y1 ch1 se1 vt1 hh hi hbi a1 a2 a3 hR1 fr1 hrun I1 hall
          obtain rfl : i = bg (se p + 1) := by omega
          obtain ⟨-, -, -, -, g13, -⟩ := id hR1
          have g16 := (fr1 16 (by omega)).trans l16
          refine et_iload d_R_fitFrom_116 rfl ?_
          refine et_aload_n (i := 0) d_R_fitFrom_118 rfl rfl ?_
          refine et_getf (ci := 2) 5 d_R_fitFrom_119 g13 rfl in_R (by decide) fl_R_22 rfl ?_
          refine et_iload d_R_fitFrom_122 rfl ?_
          refine et_iconst (v := 1) d_R_fitFrom_124 (by decide) ?_
          refine et_iadd d_R_fitFrom_125 ?_
          rw [nI_1]
          refine et_ialn d_R_fitFrom_126 g16 (by omega) (by first | decide | omega) ?_
          rw [lb _ (by omega)]
          refine et_icmp_ge (tgt := 181) d_R_fitFrom_127 (by decide) (fun _ => ?_) (fun q => absurd (nI_le (Nat.le_refl _) (by omega)) q)
          refine et_iconst (v := 1) d_R_fitFrom_181 (by decide) ?_
          refine et_zret d_R_fitFrom_182 rfl rfl (Nat.le_refl _) (Nat.le_refl _) ⟨rfl, fr1, A, y1, ch1, se1, vt1, a1, a2, a3, hR1, Or.inl ⟨rfl, hrun, I1, fun th hth => ?_⟩⟩
          obtain ⟨nn, n1, n2, n3, n4⟩ := (mt_node G0 hw hpe ev hth.2).mp hth.1
          obtain ⟨j, j1, j2, j3⟩ := lall nn n1
          rw [n3] at j1 j2
          subst j3
          exact hall j j1 j2 n2 th ⟨n4, hth.2⟩
        | succ u ihu =>
          intro i A y1 ch1 se1 vt1 hh hi hbi a1 a2 a3 hR1 fr1 hrun I1 hall
          obtain ⟨hg1, g10, ⟨va1, g11, hva1⟩, ⟨st1, g12⟩, g13, sa1, g14, hsa1⟩ := id hR1
          obtain ⟨a4, a5, a6, a7, a8, a9, k3, k4, k5, k6, k7, k8, k9, kA, kN⟩ := id hg1
          have g15 := (fr1 15 (by omega)).trans l15
          have g16 := (fr1 16 (by omega)).trans l16
          obtain ⟨n1, n3⟩ := lin (se p) hsep i hbi (by omega)
          have ny : ls i < gN y1.1 := Nat.lt_of_lt_of_le n1 I1.2.1.1
          have s1 := (kA _ ny).1.trans (I1.2.1.2.2 _ n1).1
          refine et_iload d_R_fitFrom_116 rfl ?_
          refine et_aload_n (i := 0) d_R_fitFrom_118 rfl rfl ?_
          refine et_getf (ci := 2) 5 d_R_fitFrom_119 g13 rfl in_R (by decide) fl_R_22 rfl ?_
          refine et_iload d_R_fitFrom_122 rfl ?_
          refine et_iconst (v := 1) d_R_fitFrom_124 (by decide) ?_
          refine et_iadd d_R_fitFrom_125 ?_
          rw [nI_1]
          refine et_ialn d_R_fitFrom_126 g16 (by omega) (by first | decide | omega) ?_
          rw [lb _ (by omega)]
          refine et_icmp_ge (tgt := 181) d_R_fitFrom_127 (by decide) (fun q => absurd q (nI_ge (by omega) (by omega))) (fun _ => ?_)
          refine et_aload_n (i := 0) d_R_fitFrom_130 rfl rfl ?_
          refine et_getf (ci := 2) 1 d_R_fitFrom_131 g13 rfl in_R (by decide) fl_R_25 rfl ?_
          refine et_getf (ci := 1) 0 d_R_fitFrom_134 k3 rfl in_G (by decide) fl_R_86 rfl ?_
          refine et_aload_n (i := 0) d_R_fitFrom_137 rfl rfl ?_
          refine et_getf (ci := 2) 4 d_R_fitFrom_138 g13 rfl in_R (by decide) fl_R_19 rfl ?_
          refine et_iload d_R_fitFrom_141 rfl ?_
          refine et_ialn d_R_fitFrom_143 g15 (by omega) (by first | decide | omega) ?_
          rw [ll i (by omega)]
          refine et_ialn d_R_fitFrom_144 k4 (by omega) (by first | decide | omega) ?_
          rw [s1]
          refine et_iload_n (i := 3) d_R_fitFrom_145 rfl rfl ?_
          have nxt : ∀ (A' : List gact) (y2 : gx) (ch2 : Bool) (se2 vt2 : Nat → Nat) (h2 : Nat → et_MC), (∀ a ∈ A', a.1 = se 0 ∧ a.2.1 = sg row len (len - (e + 1)) ∧ mtV g0 row e se vt a.2.2 p) → (∀ q, q < p ∨ q ∈ stN row e (e - p) → se2 q = se q) → (∀ v, v < 3 → inF row (nI (97 + v)) p = true → vt2 v = vt v) → et_RH y2 ch2 se2 vt2 h2 → et_f14 h h2 → runA 40 A' (y, ch) = some (y2, ch2) → rdI 40 g0 y2 → (∀ j, bg (se p) ≤ j → j < i + 1 → gS g0 (ls j) = row p → ∀ th, mtV g0 row e (seU g0 (pw (row p)) ((stN row e (e - (p + 1))).getD 1 e) p (ls j) se) vt th (p + 1) → ∃ a ∈ A', ∀ v, v < 3 → inF row (nI (97 + v)) e = true → a.2.2 v = th v) → et_M sc Y_R_fitFrom (d + 4 + (t + 1)) 0 0 (fun r h' n' => n' = n ∧ ftP g0 row e len y ch se vt p r h h') 175 [some (.ref 13), some (.ref k), some (.int (nI p)), some (.int (row p)), some (.int (nI (se p))), some (.int (nI i))] [] h2 n 0 0 := by
            intro A' y2 ch2 se2 vt2 h2 c1 c2 c3 c4 c5 c6 c7 c8
            refine et_iinc (lv' := [_, _, _, _, _, _]) d_R_fitFrom_175 rfl (v := nI (i + 1)) (nI_1 i) (by decide) rfl rfl ?_
            exact et_goto (tgt := 116) d_R_fitFrom_178 (by decide) (ihu (i + 1) A' y2 ch2 se2 vt2 h2 (by omega) (by omega) c1 c2 c3 c4 c5 c6 c7 c8)
          refine et_icmp_ne (tgt := 175) d_R_fitFrom_146 (by decide) (fun q => ?_) (fun q => ?_)
          · refine nxt A y1 ch1 se1 vt1 hh a1 a2 a3 hR1 fr1 hrun I1 (fun j j1 j2 js th hth => ?_)
            by_cases ej : j = i
            · subst ej; exact absurd js q
            · exact hall j j1 (by omega) js th hth
          refine et_aload_n (i := 0) d_R_fitFrom_149 rfl rfl ?_
          refine et_aload_n (i := 1) d_R_fitFrom_150 rfl rfl ?_
          refine et_iload_n (i := 2) d_R_fitFrom_151 rfl rfl ?_
          refine et_aload_n (i := 0) d_R_fitFrom_152 rfl rfl ?_
          refine et_getf (ci := 2) 4 d_R_fitFrom_153 g13 rfl in_R (by decide) fl_R_19 rfl ?_
          refine et_iload d_R_fitFrom_156 rfl ?_
          refine et_ialn d_R_fitFrom_158 g15 (by omega) (by first | decide | omega) ?_
          rw [ll i (by omega)]
          refine et_invV mV_R_seatParts (As := [_, _, _]) rfl d_R_fitFrom_159 lk_R_89 len_R_seatParts g13 rfl (Nat.le_of_ble_eq_true rfl) (c_R_seatParts (d := d) hk I1 hr (hU.same hk (fun q hq => fr1 q (by omega))) hR1 p (ls i) hpe ev n1 q) (by omega) (Nat.le_of_ble_eq_true rfl) (Nat.le_of_ble_eq_true rfl) (fun v h2 n' hp => ?_) (fun x h' n' hp => by cases hp.1)
          obtain ⟨hv, hn2, fr2, hR2⟩ := hp
          cases hv
          replace hn2 := hn2.symm
          subst hn2
          have fr2' : et_f14 h h2 := fun z hz => (fr2 z (by omega)).trans (fr1 z hz)
          obtain ⟨-, -, -, -, f13, -⟩ := id hR2
          -- the places as they stand, and as they stood
          have dk : ∀ z, z ∈ (stN row e (e - (p + 1))).drop (pw (row p)) → se1 z = se z := fun z hz => a2 z (Or.inr (by rw [hst]; exact List.mem_cons_of_mem _ hz))
          have con : ∀ th, mtV g0 row e (seU g0 (pw (row p)) ((stN row e (e - (p + 1))).getD 1 e) p (ls i) se1) vt1 th (p + 1) ↔ mtV g0 row e (seU g0 (pw (row p)) ((stN row e (e - (p + 1))).getD 1 e) p (ls i) se) vt th (p + 1) := fun th => and_congr_left fun _ => mt_congr (fun z hz => seU_congr hw hpe dk hz) (fun v h1 h2 => a3 v h1 (fst v h1 h2))
          have se0 : (seU g0 (pw (row p)) ((stN row e (e - (p + 1))).getD 1 e) p (ls i) se1) 0 = se 0 := (seU_keep hw hpe (Or.inl (Nat.zero_le _))).trans (a2 0 hz)
          have bnd : ∀ z, z ∈ stN row e (e - (p + 1)) → (seU g0 (pw (row p)) ((stN row e (e - (p + 1))).getD 1 e) p (ls i) se1) z < gC g0 := by
            intro z hz
            obtain ⟨b1, b2, b3⟩ := G0.1.2.2 (ls i) n1
            have har := G0.2.2.2 (ls i) n1
            rw [q] at har
            have hpp : et_pp (row p) = et_pt (row p) := by rw [et_pp, if_neg ev]
            rcases stN_cases hw hpe hz with ⟨x1, x2⟩ | ⟨x1, x2⟩ | x1
            · rcases har with ⟨ep, -⟩ | ⟨ep, eL, -⟩ | ⟨ep, eL, eR⟩
              · exact absurd (pw_0 (hpp.trans ep)) x1
              · rw [pw_1 (hpp.trans ep), x2]
                show gUp se1 (p + 1) _ (p + 1) < _
                rw [gUp_s]; omega
              · rw [pw_2 (hpp.trans ep), x2]
                generalize (stN row e (e - (p + 1))).getD 1 e = bb
                show gUp (gUp se1 (p + 1) _) bb _ (p + 1) < _
                by_cases ez : p + 1 = bb
                · rw [← ez, gUp_s]; omega
                · rw [gUp_n _ _ ez, gUp_s]; omega
            · rcases har with ⟨ep, -⟩ | ⟨ep, -⟩ | ⟨ep, eL, eR⟩
              · rw [pw_0 (hpp.trans ep)] at x1; cases x1
              · rw [pw_1 (hpp.trans ep)] at x1; cases x1
              · rw [x1, ← x2]
                show gUp _ z _ z < _
                rw [gUp_s]; omega
            · rw [seU_keep hw hpe (Or.inr x1), dk z x1]
              exact hse z (by rw [hst]; exact List.mem_cons_of_mem _ x1)
          refine et_aload_n (i := 0) d_R_fitFrom_162 rfl rfl ?_
          refine et_aload_n (i := 1) d_R_fitFrom_163 rfl rfl ?_
          refine et_iload_n (i := 2) d_R_fitFrom_164 rfl rfl ?_
          refine et_iconst (v := 1) d_R_fitFrom_165 (by decide) ?_
          refine et_iadd d_R_fitFrom_166 ?_
          rw [nI_1]
          refine et_invV mV_R_fitFrom (As := [_, _]) rfl d_R_fitFrom_167 lk_R_45 len_R_fitFrom f13 rfl (Nat.le_of_ble_eq_true rfl) (ih (p + 1) h2 y1 ch1 _ vt1 (by omega) I1 (hU.same hk (fun z hz => fr2' z (by omega))) ⟨b15, b16, bg, ls, (fr2' 15 (by omega)).trans l15, (fr2' 16 (by omega)).trans l16, lb, ll, lm, l40, lin, lall⟩ hR2 (by rw [se0]; exact h0) bnd (fun v h1 h2 => by rw [a3 v h1 (fst v h1 h2)]; exact hvt v h1 (fst v h1 h2))) (Nat.le_refl _) (Nat.le_of_ble_eq_true rfl) (Nat.le_of_ble_eq_true rfl) (fun v h3 n' hp => ?_) (fun x h' n' hp => by obtain ⟨-, -, A, y', ch', se', vt', -, -, -, -, ⟨e, -⟩ | ⟨e, -⟩⟩ := hp <;> cases e)
          obtain ⟨hn2, fr3, A', y2, ch2, se2, vt2, c1, c2, c3, c4, c5⟩ := hp
          replace hn2 := hn2.symm
          subst hn2
          have fr3' : et_f14 h h3 := fun z hz => (fr3 z hz).trans (fr2' z hz)
          have c1' : ∀ a ∈ A', a.1 = se 0 ∧ a.2.1 = sg row len (len - (e + 1)) ∧ mtV g0 row e se vt a.2.2 p := fun a ha => by
            obtain ⟨x1, x2, x3⟩ := c1 a ha
            exact ⟨x1.trans se0, x2, (mt_node G0 hw hpe ev x3.2).mpr ⟨ls i, n1, q, n3, ((con _).mp x3).1⟩, x3.2⟩
          have c1A : ∀ a ∈ A ++ A', a.1 = se 0 ∧ a.2.1 = sg row len (len - (e + 1)) ∧ mtV g0 row e se vt a.2.2 p := fun a ha => (List.mem_append.mp ha).elim (a1 a) (c1' a)
          have c2' : ∀ z, z < p ∨ z ∈ stN row e (e - p) → se2 z = se z := by
            intro z hz
            have hz' : z ≤ p ∨ z ∈ (stN row e (e - (p + 1))).drop (pw (row p)) := by
              rw [hst] at hz
              rcases hz with w | w
              · exact Or.inl (by omega)
              · rcases List.mem_cons.mp w with w | w
                · exact Or.inl (by omega)
                · exact Or.inr w
            rw [c2 z (hz'.elim (fun w => Or.inl (by omega)) (fun w => Or.inr (List.mem_of_mem_drop w))), seU_keep hw hpe hz']
            exact a2 z hz
          have c3' : ∀ v, v < 3 → inF row (nI (97 + v)) p = true → vt2 v = vt v := fun v h1 h2 => (c3 v h1 (inF_succ.mpr (Or.inl h2))).trans (a3 v h1 h2)
          rcases c5 with ⟨hv, b1, b2, b3⟩ | ⟨hv, b1, b2, s1', th, b3, b4, b5, b6⟩
          · cases hv
            refine et_if_ne (tgt := 175) d_R_fitFrom_170 (by decide) (fun _ => ?_) (fun q => absurd q (by decide))
            refine nxt (A ++ A') y2 ch2 se2 vt2 h3 c1A c2' c3' c4 fr3' (by rw [runA_app hrun]; exact b1) b2 (fun j j1 j2 js th hth => ?_)
            by_cases ej : j = i
            · subst ej
              obtain ⟨a, ha, hb⟩ := b3 th ((con th).mpr hth)
              exact ⟨a, List.mem_append.mpr (Or.inr ha), hb⟩
            · obtain ⟨a, ha, hb⟩ := hall j j1 (by omega) js th hth
              exact ⟨a, List.mem_append.mpr (Or.inl ha), hb⟩
          · cases hv
            refine et_if_ne (tgt := 175) d_R_fitFrom_170 (by decide) (fun q => absurd (by decide) q) (fun _ => ?_)
            refine et_iconst (v := 0) d_R_fitFrom_173 (by decide) ?_
            exact et_zret d_R_fitFrom_174 rfl rfl (Nat.le_of_ble_eq_true rfl) (Nat.le_of_ble_eq_true rfl) ⟨rfl, fr3', A ++ A', y2, ch2, se2, vt2, c1A, c2', c3', c4, Or.inr ⟨rfl, b1, b2, s1', th, by rw [runA_app hrun]; exact b3, b4, ⟨(mt_node G0 hw hpe ev b5.2).mpr ⟨ls i, n1, q, n3, ((con th).mp b5).1⟩, b5.2⟩, by rw [se0] at b6; exact b6⟩⟩
      exact loop (bg (se p + 1) - bg (se p)) (bg (se p)) [] y ch se vt h (by omega) (Nat.le_refl _) (fun a ha => by cases ha) (fun _ _ => rfl) (fun _ _ _ => rfl) hR (fun _ _ => rfl) rfl I (fun j j1 j2 => absurd j2 (by omega))
