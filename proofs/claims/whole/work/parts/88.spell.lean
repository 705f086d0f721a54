/-! ===== Cheapest: the best terms are spelled ===== -/
def et_TM (tt : Nat → Nat → Int32) (h : Nat → et_MC) : Prop := (∃ tf, h 21 = .inl (4, 40, .inr (.inr (.inr (.inr tf)))) ∧ ∀ i, i < 40 → tf i = some (22 + i)) ∧ ∀ i, i < 40 → h (22 + i) = .inl (0, 60, .inl (tt i))
set_option maxHeartbeats 4000000 in
set_option maxRecDepth 100000 in
theorem c_C_isBest {sc : et_X} {h : Nat → et_MC} {d n : Nat} {x : gx} {p18 : Nat → Int32} {pr : Int32 → Nat} {w : Nat → pai} (k : Nat) (hk : k < gN x.1) (ok : gOk 40 x.1) (ar : gAr x.1) (hg : et_gh x h) (hc : et_CH p18 w (gC x.1) h) (hp : prOk p18 pr) (wb : wBd w (gC x.1)) (hfin : (w (gH x.1 k)).1 ≤ kM) : et_Cn sc Y_C_isBest (d + 2) [.ref 17, .int (nI k)] h n 0 0 (fun r h' n' => n' = n ∧ h' = h ∧ ((r = .inl (some (.int 1)) ∧ pB x.1 pr w k = w (gH x.1 k)) ∨ (r = .inl (some (.int 0)) ∧ pB x.1 pr w k ≠ w (gH x.1 k)))) := by
  refine et_Cn.of 1 rfl rfl (by decide) mV_C_isBest.1 ?_
  obtain ⟨a4, a5, a6, a7, a8, a9, h3, h4, h5, h6, h7, h8, h9, hnode, hname⟩ := id hg
  obtain ⟨h17, h18, c19, c20, h19, h20, hcl⟩ := id hc
  obtain ⟨e1, e2, e3, e4⟩ := hnode k hk
  obtain ⟨o1, o2, o3⟩ := ok.2.2 k hk
  have ok1 := ok.1
  have ok2 := ok.2.1
  have hkM : kM = 4611686018427387904 := rfl
  obtain ⟨bl1, bl2⟩ := wb.a o2
  obtain ⟨br1, br2⟩ := wb.a o3
  obtain ⟨wh1, wh2⟩ := wb _ o1
  have hpr := (hp _ (gAr_pt ar hk)).2.1
  have eB1 : (pB x.1 pr w k).1 = pr (gS x.1 k) + (pA w (gL x.1 k)).1 + (pA w (gR x.1 k)).1 := rfl
  have eB2 : (pB x.1 pr w k).2 = 1 + (pA w (gL x.1 k)).2 + (pA w (gR x.1 k)).2 := rfl
  generalize hB : pB x.1 pr w k = B at *
  refine et_aload_n (i := 0) d_C_isBest_0 rfl rfl ?_
  refine et_getf (ci := 0) 4 d_C_isBest_1 h17 rfl in_C (by decide) fl_C_30 rfl ?_
  refine et_getf (ci := 1) 3 d_C_isBest_4 h3 rfl in_G (by decide) fl_C_58 rfl ?_
  refine et_iload_n (i := 1) d_C_isBest_7 rfl rfl ?_
  refine et_ialn d_C_isBest_8 h7 (by omega) (by first | decide | omega) ?_
  rw [e4]
  refine et_istore_n (i := 2) (lv' := [_, _, _]) d_C_isBest_9 rfl (by decide) rfl rfl ?_
  refine et_aload_n (i := 0) d_C_isBest_10 rfl rfl ?_
  refine et_iload_n (i := 1) d_C_isBest_11 rfl rfl ?_
  refine et_invV mV_C_costThrough (As := [_]) rfl d_C_isBest_12 lk_C_61 len_C_costThrough h17 rfl (Nat.le_of_ble_eq_true rfl) (c_C_costThrough (d := d) (pr := pr) k hk ok ar hg hc hp wb) (Nat.le_refl _) (Nat.le_of_ble_eq_true rfl) (Nat.le_of_ble_eq_true rfl) (fun v h' n' hp => ?_) (fun x h' n' hp => by cases hp.1)
  obtain ⟨hv, hn2, hh2⟩ := hp
  cases hv
  subst hh2
  replace hn2 := hn2.symm
  subst hn2
  rw [hB]
  refine et_aload_n (i := 0) d_C_isBest_15 rfl rfl ?_
  refine et_getf (ci := 0) 1 d_C_isBest_16 h17 rfl in_C (by decide) fl_C_15 rfl ?_
  refine et_iload_n (i := 2) d_C_isBest_19 rfl rfl ?_
  refine et_laln d_C_isBest_20 h19 (by omega) (by first | decide | omega) ?_
  rw [(hcl _ o1).1]
  refine et_lcmp d_C_isBest_21 ?_
  refine et_if_ne (tgt := 44) d_C_isBest_22 (by decide) (fun q => ?_) (fun q => ?_)
  · refine et_iconst (v := 0) d_C_isBest_44 (by decide) ?_
    exact et_zret d_C_isBest_45 rfl rfl (Nat.le_refl _) (Nat.le_refl _) ⟨rfl, rfl, Or.inr ⟨rfl, fun z => q ((lg_cmp_eq _ _).mpr (by rw [z, Nat.min_eq_left (by omega)]))⟩⟩
  · have q2 : min B.1 (kM + 1) = (w (gH x.1 k)).1 := (pk_lEQ (by omega) (by omega)).mp ((lg_cmp_eq _ _).mp q)
    refine et_aload_n (i := 0) d_C_isBest_25 rfl rfl ?_
    refine et_iload_n (i := 1) d_C_isBest_26 rfl rfl ?_
    refine et_invV mV_C_lengthThrough (As := [_]) rfl d_C_isBest_27 lk_C_67 len_C_lengthThrough h17 rfl (Nat.le_of_ble_eq_true rfl) (c_C_lengthThrough (d := d + 1) pr k hk ok hg hc) (Nat.le_refl _) (Nat.le_of_ble_eq_true rfl) (Nat.le_of_ble_eq_true rfl) (fun v h' n' hp => ?_) (fun x h' n' hp => by cases hp.1)
    obtain ⟨hv, hn2, hh2⟩ := hp
    cases hv
    subst hh2
    replace hn2 := hn2.symm
    subst hn2
    rw [hB]
    refine et_aload_n (i := 0) d_C_isBest_30 rfl rfl ?_
    refine et_getf (ci := 0) 2 d_C_isBest_31 h17 rfl in_C (by decide) fl_C_19 rfl ?_
    refine et_iload_n (i := 2) d_C_isBest_34 rfl rfl ?_
    refine et_laln d_C_isBest_35 h20 (by omega) (by first | decide | omega) ?_
    rw [(hcl _ o1).2]
    refine et_lcmp d_C_isBest_36 ?_
    refine et_if_ne (tgt := 44) d_C_isBest_37 (by decide) (fun p => ?_) (fun p => ?_)
    · refine et_iconst (v := 0) d_C_isBest_44 (by decide) ?_
      exact et_zret d_C_isBest_45 rfl rfl (Nat.le_refl _) (Nat.le_refl _) ⟨rfl, rfl, Or.inr ⟨rfl, fun z => p ((lg_cmp_eq _ _).mpr (by rw [z]))⟩⟩
    · have p2 : B.2 = (w (gH x.1 k)).2 := (pk_lEQ (by omega) (by omega)).mp ((lg_cmp_eq _ _).mp p)
      refine et_iconst (v := 1) d_C_isBest_40 (by decide) ?_
      refine et_goto (tgt := 45) d_C_isBest_41 (by decide) ?_
      exact et_zret d_C_isBest_45 rfl rfl (Nat.le_refl _) (Nat.le_refl _) ⟨rfl, rfl, Or.inl ⟨rfl, Prod.ext (by omega) p2⟩⟩
set_option maxHeartbeats 4000000 in
set_option maxRecDepth 100000 in
theorem c_C_appendTerm {sc : et_X} {h : Nat → et_MC} {d n : Nat} {p18 tr : Nat → Int32} {tt : Nat → Nat → Int32} {w : Nat → pai} {C : Nat} (l at0 : Nat) (hC : C ≤ 40) (hl : l ≤ C) (hlen : at0 + (pA w l).2 ≤ 60) (hc : et_CH p18 w C h) (hT : et_TM tt h) (h62 : h 62 = .inl (0, 60, .inl tr)) : et_Cn sc Y_C_appendTerm d [.ref 17, .int (eI l), .int (nI at0)] h n 0 0 (fun r h' n' => r = .inl (some (.int (nI (at0 + (pA w l).2)))) ∧ n' = n ∧ (∀ q, q ≠ 62 → h' q = h q) ∧ ∃ tr', h' 62 = .inl (0, 60, .inl tr') ∧ (∀ j, j < at0 → tr' j = tr j) ∧ ∀ b, l = b + 1 → ∀ j, j < (w b).2 → tr' (at0 + j) = tt b j) := by
  refine et_Cn.of 1 rfl rfl (by decide) mV_C_appendTerm.1 ?_
  obtain ⟨h17, h18, c19, c20, h19, h20, hcl⟩ := id hc
  obtain ⟨⟨tf, h21, htf⟩, htt⟩ := hT
  cases l with
  | zero =>
    rw [eI_0]
    refine et_iload_n (i := 1) d_C_appendTerm_0 rfl rfl ?_
    refine et_iconst (v := (-1)) d_C_appendTerm_1 (by decide) ?_
    refine et_icmp_ne (tgt := 7) d_C_appendTerm_2 (by decide) (fun q => absurd rfl q) (fun _ => ?_)
    refine et_iload_n (i := 2) d_C_appendTerm_5 rfl rfl ?_
    exact et_iret d_C_appendTerm_6 rfl (Nat.le_refl _) (Nat.le_refl _) ⟨rfl, rfl, fun _ _ => rfl, tr, h62, fun _ _ => rfl, fun b hb => by cases hb⟩
  | succ b =>
    have hlen : at0 + (w b).2 ≤ 60 := hlen
    rw [eI_s]
    refine et_iload_n (i := 1) d_C_appendTerm_0 rfl rfl ?_
    refine et_iconst (v := (-1)) d_C_appendTerm_1 (by decide) ?_
    refine et_icmp_ne (tgt := 7) d_C_appendTerm_2 (by decide) (fun _ => ?_) (fun q => absurd q (eI_ns (by omega)))
    refine et_aload_n (i := 0) d_C_appendTerm_7 rfl rfl ?_
    refine et_getf (ci := 0) 2 d_C_appendTerm_8 h17 rfl in_C (by decide) fl_C_19 rfl ?_
    refine et_iload_n (i := 1) d_C_appendTerm_11 rfl rfl ?_
    refine et_laln d_C_appendTerm_12 h20 (by omega) (by first | decide | omega) ?_
    rw [(hcl b (by omega)).2]
    refine et_l2i d_C_appendTerm_13 (lN_i _) ?_
    refine et_istore_n (i := 3) (lv' := [_, _, _, _]) d_C_appendTerm_14 rfl (by decide) rfl rfl ?_
    refine et_aload_n (i := 0) d_C_appendTerm_15 rfl rfl ?_
    refine et_getf (ci := 0) 3 d_C_appendTerm_16 h17 rfl in_C (by decide) fl_C_24 rfl ?_
    refine et_iload_n (i := 1) d_C_appendTerm_19 rfl rfl ?_
    refine et_ald4 (r := 22 + b) d_C_appendTerm_20 h21 (vp_in_nI (by omega) (by decide)) (by rw [nI_clamp (by omega)]; exact htf b (by omega)) ?_
    refine et_iconst (v := 0) d_C_appendTerm_21 (by decide) ?_
    refine et_aload_n (i := 0) d_C_appendTerm_22 rfl rfl ?_
    refine et_getf (ci := 0) 5 d_C_appendTerm_23 h17 rfl in_C (by decide) fl_C_27 rfl ?_
    refine et_iload_n (i := 2) d_C_appendTerm_26 rfl rfl ?_
    refine et_iload_n (i := 3) d_C_appendTerm_27 rfl rfl ?_
    refine et_copy (k0 := 22 + b) (k1 := 62) (n0 := 60) (n1 := 60) d_C_appendTerm_28 ml_C_98 sy_nat sy_stat ini_System (htt b (by omega)) h62 (by decide) (nI_pos (by omega)) (nI_pos (by omega)) (by rw [nI_clamp (by omega)]; show 0 + (w b).2 ≤ 60; omega) (by rw [nI_clamp (by omega), nI_clamp (by omega)]; omega) (Nat.le_of_ble_eq_true rfl) ?_
    refine et_iload_n (i := 2) d_C_appendTerm_31 rfl rfl ?_
    refine et_iload_n (i := 3) d_C_appendTerm_32 rfl rfl ?_
    refine et_iadd d_C_appendTerm_33 ?_
    rw [nI_add]
    refine et_iret d_C_appendTerm_34 rfl (Nat.le_refl _) (Nat.le_refl _) ⟨rfl, rfl, fun q hq => va_ne hq, _, va_eq, fun j hj => ?_, fun b' hb j hj => ?_⟩
    · rw [nI_clamp (by omega), nI_clamp (by omega)]
      exact pk_cpy_out (Or.inl hj)
    · cases hb
      rw [nI_clamp (by omega), nI_clamp (by omega), pk_cpy_in (by omega) (by omega), show at0 + j - at0 = j by omega]
      show tt b (0 + j) = tt b j
      rw [Nat.zero_add]
set_option maxHeartbeats 4000000 in
set_option maxRecDepth 100000 in
theorem c_C_trialComesBefore {sc : et_X} {h : Nat → et_MC} {d n : Nat} {tr t : Nat → Int32} (kt len : Nat) (hlen : len ≤ 60) (h17 : h 17 = .inr (0, [.ref 18, .ref 19, .ref 20, .ref 21, .ref 3, .ref 62])) (h62 : h 62 = .inl (0, 60, .inl tr)) (ht : h kt = .inl (0, 60, .inl t)) : et_Cn sc Y_C_trialComesBefore d [.ref 17, .ref kt, .int (nI len)] h n 0 0 (fun r h' n' => n' = n ∧ h' = h ∧ ((r = .inl (some (.int 1)) ∧ ∃ i, i < len ∧ (∀ j, j < i → tr j = t j) ∧ tr i < t i) ∨ (r = .inl (some (.int 0)) ∧ ((∀ j, j < len → tr j = t j) ∨ ∃ i, i < len ∧ (∀ j, j < i → tr j = t j) ∧ t i < tr i)))) := by
  refine et_Cn.of 1 rfl rfl (by decide) mV_C_trialComesBefore.1 ?_
  have loop : ∀ (s i : Nat), i + s = len → (∀ j, j < i → tr j = t j) → et_M sc Y_C_trialComesBefore d 0 0 (fun r h' n' => n' = n ∧ h' = h ∧ ((r = .inl (some (.int 1)) ∧ ∃ i, i < len ∧ (∀ j, j < i → tr j = t j) ∧ tr i < t i) ∨ (r = .inl (some (.int 0)) ∧ ((∀ j, j < len → tr j = t j) ∨ ∃ i, i < len ∧ (∀ j, j < i → tr j = t j) ∧ t i < tr i)))) 2 [some (.ref 17), some (.ref kt), some (.int (nI len)), some (.int (nI i))] [] h n 0 0 := by
    intro s
    induction s with
    | zero =>
      intro i hi he
      obtain rfl : i = len := by omega
      refine et_iload_n (i := 3) d_C_trialComesBefore_2 rfl rfl ?_
      refine et_iload_n (i := 2) d_C_trialComesBefore_3 rfl rfl ?_
      refine et_icmp_ge (tgt := 43) d_C_trialComesBefore_4 (by decide) (fun _ => ?_) (fun q => absurd (nI_le (Nat.le_refl _) (by omega)) q)
      refine et_iconst (v := 0) d_C_trialComesBefore_43 (by decide) ?_
      exact et_zret d_C_trialComesBefore_44 rfl rfl (Nat.le_refl _) (Nat.le_refl _) ⟨rfl, rfl, Or.inr ⟨rfl, Or.inl he⟩⟩
    | succ s ih =>
      intro i hi he
      refine et_iload_n (i := 3) d_C_trialComesBefore_2 rfl rfl ?_
      refine et_iload_n (i := 2) d_C_trialComesBefore_3 rfl rfl ?_
      refine et_icmp_ge (tgt := 43) d_C_trialComesBefore_4 (by decide) (fun q => absurd q (nI_ge (by omega) (by omega))) (fun _ => ?_)
      refine et_aload_n (i := 0) d_C_trialComesBefore_7 rfl rfl ?_
      refine et_getf (ci := 0) 5 d_C_trialComesBefore_8 h17 rfl in_C (by decide) fl_C_27 rfl ?_
      refine et_iload_n (i := 3) d_C_trialComesBefore_11 rfl rfl ?_
      refine et_ialn d_C_trialComesBefore_12 h62 (by omega) (by first | decide | omega) ?_
      refine et_aload_n (i := 1) d_C_trialComesBefore_13 rfl rfl ?_
      refine et_iload_n (i := 3) d_C_trialComesBefore_14 rfl rfl ?_
      refine et_ialn d_C_trialComesBefore_15 ht (by omega) (by first | decide | omega) ?_
      refine et_icmp_eq (tgt := 37) d_C_trialComesBefore_16 (by decide) (fun q => ?_) (fun q => ?_)
      · refine et_iinc (lv' := [_, _, _, _]) d_C_trialComesBefore_37 rfl (v := nI (i + 1)) (nI_1 i) (by decide) rfl rfl ?_
        refine et_goto (tgt := 2) d_C_trialComesBefore_40 (by decide) ?_
        refine ih (i + 1) (by omega) (fun j hj => ?_)
        by_cases e : j = i
        · rw [e]; exact q
        · exact he j (by omega)
      · refine et_aload_n (i := 0) d_C_trialComesBefore_19 rfl rfl ?_
        refine et_getf (ci := 0) 5 d_C_trialComesBefore_20 h17 rfl in_C (by decide) fl_C_27 rfl ?_
        refine et_iload_n (i := 3) d_C_trialComesBefore_23 rfl rfl ?_
        refine et_ialn d_C_trialComesBefore_24 h62 (by omega) (by first | decide | omega) ?_
        refine et_aload_n (i := 1) d_C_trialComesBefore_25 rfl rfl ?_
        refine et_iload_n (i := 3) d_C_trialComesBefore_26 rfl rfl ?_
        refine et_ialn d_C_trialComesBefore_27 ht (by omega) (by first | decide | omega) ?_
        refine et_icmp_ge (tgt := 35) d_C_trialComesBefore_28 (by decide) (fun p => ?_) (fun p => ?_)
        · have p2 : t i < tr i := Int32.lt_of_le_of_ne p (fun z => q z.symm)
          refine et_iconst (v := 0) d_C_trialComesBefore_35 (by decide) ?_
          exact et_zret d_C_trialComesBefore_36 rfl rfl (Nat.le_refl _) (Nat.le_refl _) ⟨rfl, rfl, Or.inr ⟨rfl, Or.inr ⟨i, by omega, he, p2⟩⟩⟩
        · refine et_iconst (v := 1) d_C_trialComesBefore_31 (by decide) ?_
          refine et_goto (tgt := 36) d_C_trialComesBefore_32 (by decide) ?_
          exact et_zret d_C_trialComesBefore_36 rfl rfl (Nat.le_refl _) (Nat.le_refl _) ⟨rfl, rfl, Or.inl ⟨rfl, i, by omega, he, Int32.not_le.mp p⟩⟩
  refine et_iconst (v := nI 0) d_C_trialComesBefore_0 (by decide) ?_
  refine et_istore_n (i := 3) (lv' := [_, _, _, _]) d_C_trialComesBefore_1 rfl (by decide) rfl rfl ?_
  exact loop len 0 (by omega) (fun j hj => absurd hj (Nat.not_lt_zero _))
set_option maxHeartbeats 4000000 in
set_option maxRecDepth 100000 in
theorem c_C_spellNode {sc : et_X} {h : Nat → et_MC} {d n : Nat} {x : gx} {p18 tr : Nat → Int32} {tt : Nat → Nat → Int32} {w : Nat → pai} (k len : Nat) (hk : k < gN x.1) (ok : gOk 40 x.1) (hg : et_gh x h) (hc : et_CH p18 w (gC x.1) h) (hT : et_TM tt h) (h62 : h 62 = .inl (0, 60, .inl tr)) (hlen : 1 + (pA w (gL x.1 k)).2 + (pA w (gR x.1 k)).2 = len) (h60 : len ≤ 60) : et_Cn sc Y_C_spellNode (d + 1) [.ref 17, .int (nI k), .int (nI len)] h n 0 0 (fun r h' n' => r = .inl none ∧ n' = n ∧ ∃ tr' : Nat → Int32, h' 62 = .inl (0, 60, .inl tr') ∧ (tr' 0 = gS x.1 k ∧ (∀ b, gL x.1 k = b + 1 → ∀ j, j < (w b).2 → tr' (1 + j) = tt b j) ∧ (∀ b, gR x.1 k = b + 1 → ∀ j, j < (w b).2 → tr' (1 + (pA w (gL x.1 k)).2 + j) = tt b j)) ∧ ((∃ t', h' (22 + gH x.1 k) = .inl (0, 60, .inl t') ∧ (∀ j, j < len → t' j = tr' j) ∧ (∀ q, q ≠ 62 → q ≠ 22 + gH x.1 k → h' q = h q) ∧ ∃ i, i < len ∧ (∀ j, j < i → tr' j = tt (gH x.1 k) j) ∧ tr' i < tt (gH x.1 k) i) ∨ ((∀ q, q ≠ 62 → h' q = h q) ∧ ((∀ j, j < len → tr' j = tt (gH x.1 k) j) ∨ ∃ i, i < len ∧ (∀ j, j < i → tr' j = tt (gH x.1 k) j) ∧ tt (gH x.1 k) i < tr' i)))) := by
  refine et_Cn.of 2 rfl rfl (by decide) mV_C_spellNode.1 ?_
  obtain ⟨a4, a5, a6, a7, a8, a9, h3, h4, h5, h6, h7, h8, h9, hnode, hname⟩ := id hg
  obtain ⟨h17, h18, c19, c20, h19, h20, hcl⟩ := id hc
  obtain ⟨e1, e2, e3, e4⟩ := hnode k hk
  obtain ⟨o1, o2, o3⟩ := ok.2.2 k hk
  have ok1 := ok.1
  have ok2 := ok.2.1
  have hkM : kM = 4611686018427387904 := rfl
  obtain ⟨⟨tf, h21, htf⟩, htt⟩ := id hT
  refine et_aload_n (i := 0) d_C_spellNode_0 rfl rfl ?_
  refine et_getf (ci := 0) 5 d_C_spellNode_1 h17 rfl in_C (by decide) fl_C_27 rfl ?_
  refine et_iconst (v := nI 0) d_C_spellNode_4 (by decide) ?_
  refine et_aload_n (i := 0) d_C_spellNode_5 rfl rfl ?_
  refine et_getf (ci := 0) 4 d_C_spellNode_6 h17 rfl in_C (by decide) fl_C_30 rfl ?_
  refine et_getf (ci := 1) 0 d_C_spellNode_9 h3 rfl in_G (by decide) fl_C_70 rfl ?_
  refine et_iload_n (i := 1) d_C_spellNode_12 rfl rfl ?_
  refine et_ialn d_C_spellNode_13 h4 (by omega) (by first | decide | omega) ?_
  rw [e1]
  refine et_iasn d_C_spellNode_14 h62 (by omega) (by first | decide | omega) ?_
  have hc1 : ∀ {z : et_MC}, et_CH p18 w (gC x.1) (va_up h 62 z) := ⟨(va_ne (by decide)).trans h17, (va_ne (by decide)).trans h18, c19, c20, (va_ne (by decide)).trans h19, (va_ne (by decide)).trans h20, hcl⟩
  have hT1 : ∀ {z : et_MC}, et_TM tt (va_up h 62 z) := ⟨⟨tf, (va_ne (by decide)).trans h21, htf⟩, fun i hi => (va_ne (by omega)).trans (htt i hi)⟩
  refine et_aload_n (i := 0) d_C_spellNode_15 rfl rfl ?_
  refine et_aload_n (i := 0) d_C_spellNode_16 rfl rfl ?_
  refine et_getf (ci := 0) 4 d_C_spellNode_17 ((va_ne (by decide)).trans h17) rfl in_C (by decide) fl_C_30 rfl ?_
  refine et_getf (ci := 1) 1 d_C_spellNode_20 ((va_ne (by decide)).trans h3) rfl in_G (by decide) fl_C_73 rfl ?_
  refine et_iload_n (i := 1) d_C_spellNode_23 rfl rfl ?_
  refine et_ialn d_C_spellNode_24 ((va_ne (by decide)).trans h5) (by omega) (by first | decide | omega) ?_
  rw [e2]
  refine et_iconst (v := nI 1) d_C_spellNode_25 (by decide) ?_
  refine et_invV mV_C_appendTerm (As := [_, _]) rfl d_C_spellNode_26 lk_C_90 len_C_appendTerm ((va_ne (by decide)).trans h17) rfl (Nat.le_of_ble_eq_true rfl) (c_C_appendTerm (d := d) (w := w) (gL x.1 k) 1 (by omega) o2 (by omega) hc1 hT1 va_eq) (Nat.le_refl _) (Nat.le_of_ble_eq_true rfl) (Nat.le_of_ble_eq_true rfl) (fun v h1 n' hp => ?_) (fun x h' n' hp => by cases hp.1)
  obtain ⟨hv, hn2, fr1, tr1, k62, p1, p2⟩ := hp
  cases hv
  replace hn2 := hn2.symm
  subst hn2
  have fr2 : ∀ q, q ≠ 62 → h1 q = h q := fun q hq => (fr1 q hq).trans (va_ne hq)
  have k17 := (fr2 17 (by decide)).trans h17
  have k3 := (fr2 3 (by decide)).trans h3
  have k6 := (fr2 6 (by decide)).trans h6
  have k7 := (fr2 7 (by decide)).trans h7
  have hc2 : et_CH p18 w (gC x.1) h1 := ⟨k17, (fr2 18 (by decide)).trans h18, c19, c20, (fr2 19 (by decide)).trans h19, (fr2 20 (by decide)).trans h20, hcl⟩
  have hT2 : et_TM tt h1 := ⟨⟨tf, (fr2 21 (by decide)).trans h21, htf⟩, fun i hi => (fr2 _ (by omega)).trans (htt i hi)⟩
  refine et_istore_n (i := 3) (lv' := [_, _, _, _, _]) d_C_spellNode_29 rfl (by decide) rfl rfl ?_
  refine et_aload_n (i := 0) d_C_spellNode_30 rfl rfl ?_
  refine et_aload_n (i := 0) d_C_spellNode_31 rfl rfl ?_
  refine et_getf (ci := 0) 4 d_C_spellNode_32 k17 rfl in_C (by decide) fl_C_30 rfl ?_
  refine et_getf (ci := 1) 2 d_C_spellNode_35 k3 rfl in_G (by decide) fl_C_80 rfl ?_
  refine et_iload_n (i := 1) d_C_spellNode_38 rfl rfl ?_
  refine et_ialn d_C_spellNode_39 k6 (by omega) (by first | decide | omega) ?_
  rw [e3]
  refine et_iload_n (i := 3) d_C_spellNode_40 rfl rfl ?_
  refine et_invV mV_C_appendTerm (As := [_, _]) rfl d_C_spellNode_41 lk_C_90 len_C_appendTerm k17 rfl (Nat.le_of_ble_eq_true rfl) (c_C_appendTerm (d := d) (w := w) (gR x.1 k) (1 + (pA w (gL x.1 k)).2) (by omega) o3 (by omega) hc2 hT2 k62) (Nat.le_refl _) (Nat.le_of_ble_eq_true rfl) (Nat.le_of_ble_eq_true rfl) (fun v h2 n' hp => ?_) (fun x h' n' hp => by cases hp.1)
  obtain ⟨hv, hn2, fr3, tr2, l62, p3, p4⟩ := hp
  cases hv
  replace hn2 := hn2.symm
  subst hn2
  have fr4 : ∀ q, q ≠ 62 → h2 q = h q := fun q hq => (fr3 q hq).trans (fr2 q hq)
  have l17 := (fr4 17 (by decide)).trans h17
  have l3 := (fr4 3 (by decide)).trans h3
  have l7 := (fr4 7 (by decide)).trans h7
  have l21 := (fr4 21 (by decide)).trans h21
  have lt := (fr4 _ (by omega)).trans (htt (gH x.1 k) (by omega))
  have st : tr2 0 = gS x.1 k ∧ (∀ b, gL x.1 k = b + 1 → ∀ j, j < (w b).2 → tr2 (1 + j) = tt b j) ∧ (∀ b, gR x.1 k = b + 1 → ∀ j, j < (w b).2 → tr2 (1 + (pA w (gL x.1 k)).2 + j) = tt b j) := by
    refine ⟨?_, fun b hb j hj => ?_, fun b hb j hj => p4 b hb j hj⟩
    · rw [p3 0 (by omega), p1 0 (by omega), pk_us]
    · have hpa : (pA w (gL x.1 k)).2 = (w b).2 := by rw [hb]; rfl
      rw [p3 (1 + j) (by omega), p2 b hb j hj]
  refine et_pop d_C_spellNode_44 rfl ?_
  refine et_aload_n (i := 0) d_C_spellNode_45 rfl rfl ?_
  refine et_getf (ci := 0) 3 d_C_spellNode_46 l17 rfl in_C (by decide) fl_C_24 rfl ?_
  refine et_aload_n (i := 0) d_C_spellNode_49 rfl rfl ?_
  refine et_getf (ci := 0) 4 d_C_spellNode_50 l17 rfl in_C (by decide) fl_C_30 rfl ?_
  refine et_getf (ci := 1) 3 d_C_spellNode_53 l3 rfl in_G (by decide) fl_C_58 rfl ?_
  refine et_iload_n (i := 1) d_C_spellNode_56 rfl rfl ?_
  refine et_ialn d_C_spellNode_57 l7 (by omega) (by first | decide | omega) ?_
  rw [e4]
  refine et_ald4 (r := 22 + gH x.1 k) d_C_spellNode_58 l21 (vp_in_nI (by omega) (by decide)) (by rw [nI_clamp (by omega)]; exact htf _ (by omega)) ?_
  refine et_astore (lv' := [_, _, _, _, _]) d_C_spellNode_59 (by decide) rfl rfl ?_
  refine et_aload_n (i := 0) d_C_spellNode_61 rfl rfl ?_
  refine et_aload d_C_spellNode_62 rfl ?_
  refine et_iload_n (i := 2) d_C_spellNode_64 rfl rfl ?_
  refine et_invV mV_C_trialComesBefore (As := [_, _]) rfl d_C_spellNode_65 lk_C_94 len_C_trialComesBefore l17 rfl (Nat.le_of_ble_eq_true rfl) (c_C_trialComesBefore (d := d) (22 + gH x.1 k) len h60 l17 l62 lt) (Nat.le_refl _) (Nat.le_of_ble_eq_true rfl) (Nat.le_of_ble_eq_true rfl) (fun v h3 n' hp => ?_) (fun x h' n' hp => by obtain ⟨-, -, ⟨e, -⟩ | ⟨e, -⟩⟩ := hp <;> cases e)
  obtain ⟨hn2, hh2, hres⟩ := hp
  replace hh2 := hh2.symm
  subst hh2
  replace hn2 := hn2.symm
  subst hn2
  rcases hres with ⟨hv, hb⟩ | ⟨hv, hb⟩
  · cases hv
    refine et_if_eq (tgt := 83) d_C_spellNode_68 (by decide) (fun q => absurd q (by decide)) (fun _ => ?_)
    refine et_aload_n (i := 0) d_C_spellNode_71 rfl rfl ?_
    refine et_getf (ci := 0) 5 d_C_spellNode_72 l17 rfl in_C (by decide) fl_C_27 rfl ?_
    refine et_iconst (v := 0) d_C_spellNode_75 (by decide) ?_
    refine et_aload d_C_spellNode_76 rfl ?_
    refine et_iconst (v := 0) d_C_spellNode_78 (by decide) ?_
    refine et_iload_n (i := 2) d_C_spellNode_79 rfl rfl ?_
    refine et_copy (k0 := 62) (k1 := 22 + gH x.1 k) (n0 := 60) (n1 := 60) d_C_spellNode_80 ml_C_98 sy_nat sy_stat ini_System l62 lt (by decide) (by decide) (nI_pos (by omega)) (by rw [nI_clamp (by omega)]; show 0 + len ≤ 60; omega) (by rw [nI_clamp (by omega)]; show 0 + len ≤ 60; omega) (Nat.le_of_ble_eq_true rfl) ?_
    refine et_vret d_C_spellNode_83 rfl (Nat.le_refl _) (Nat.le_refl _) ⟨rfl, rfl, tr2, (va_ne (by omega)).trans l62, st, Or.inl ⟨_, va_eq, fun j hj => ?_, fun q q1 q2 => (va_ne q2).trans (fr4 q q1), hb⟩⟩
    rw [nI_clamp (by omega)]
    show va_cpy tr2 (tt (gH x.1 k)) 0 0 len j = tr2 j
    rw [pk_cpy_in (Nat.zero_le _) (by omega), Nat.sub_zero, Nat.zero_add]
  · cases hv
    refine et_if_eq (tgt := 83) d_C_spellNode_68 (by decide) (fun _ => ?_) (fun q => absurd rfl q)
    exact et_vret d_C_spellNode_83 rfl (Nat.le_refl _) (Nat.le_refl _) ⟨rfl, rfl, tr2, l62, st, Or.inr ⟨fr4, hb⟩⟩
set_option maxHeartbeats 4000000 in
set_option maxRecDepth 100000 in
theorem c_C_spell {sc : et_X} {h : Nat → et_MC} {d n : Nat} {x : gx} {p18 tr0 : Nat → Int32} {pr : Int32 → Nat} {v : Nat → tri} {tt0 : Nat → Nat → Int32} (most : Nat) (hmost : most ≤ 60) (ok : gOk 40 x.1) (ar : gAr x.1) (hg : et_gh x h) (hc : et_CH p18 (v2 v) (gC x.1) h) (hp : prOk p18 pr) (hv : bst x.1 pr v) (hvo : ∀ c, c < gC x.1 → tOk (v c)) (hT : et_TM tt0 h) (h62 : h 62 = .inl (0, 60, .inl tr0)) : et_Cn sc Y_C_spell (d + 3) [.ref 17, .int (nI most)] h n 0 0 (fun r h' n' => r = .inl none ∧ n' = n ∧ (∀ q, (q < 22 ∨ 62 < q) → h' q = h q) ∧ (∃ tr, h' 62 = .inl (0, 60, .inl tr)) ∧ ∃ tt, et_TM tt h' ∧ ∀ c, c < gC x.1 → (v c).1 ≤ kM → (v c).2.1 ≤ most → chs (tt c) (v c).2.1 ∧ num (tt c) (v c).2.1 = (v c).2.2) := by
  refine et_Cn.of 2 rfl rfl (by decide) mV_C_spell.1 ?_
  obtain ⟨a4, a5, a6, a7, a8, a9, h3, h4, h5, h6, h7, h8, h9, hnode, hname⟩ := id hg
  obtain ⟨h17, h18, c19, c20, h19, h20, hcl⟩ := id hc
  have ok1 := ok.1
  have ok2 := ok.2.1
  have hkM : kM = 4611686018427387904 := rfl
  have wb : wBd (v2 v) (gC x.1) := fun c hc => ⟨(hvo c hc).1, (hvo c hc).2.1⟩
  have gS_c : ∀ k, k < gN x.1 → 0 ≤ gS x.1 k ∧ (gS x.1 k).toNatClampNeg < 127 := fun k hk => ⟨(pt_nn (gAr_pt ar hk)).1, (pt_nn (gAr_pt ar hk)).2.1⟩
  have inner : ∀ (l : Nat), 1 ≤ l → l ≤ most → (∀ (tt : Nat → Nat → Int32) (tr : Nat → Int32) (hh : Nat → et_MC) (o3 : Option Value), et_TM tt hh → hh 62 = .inl (0, 60, .inl tr) → (∀ q, (q < 22 ∨ 62 < q) → hh q = h q) → (∀ c, c < gC x.1 → spC x.1 pr v l (gN x.1) c (tt c)) → et_M sc Y_C_spell (d + 3) 0 0 (fun r h' n' => r = .inl none ∧ n' = n ∧ (∀ q, (q < 22 ∨ 62 < q) → h' q = h q) ∧ (∃ tr, h' 62 = .inl (0, 60, .inl tr)) ∧ ∃ tt, et_TM tt h' ∧ ∀ c, c < gC x.1 → (v c).1 ≤ kM → (v c).2.1 ≤ most → chs (tt c) (v c).2.1 ∧ num (tt c) (v c).2.1 = (v c).2.2) 95 [some (.ref 17), some (.int (nI most)), some (.int (nI l)), o3] [] hh n 0 0) → ∀ (s i : Nat) (tt : Nat → Nat → Int32) (tr : Nat → Int32) (hh : Nat → et_MC), i + s = gN x.1 → et_TM tt hh → hh 62 = .inl (0, 60, .inl tr) → (∀ q, (q < 22 ∨ 62 < q) → hh q = h q) → (∀ c, c < gC x.1 → spC x.1 pr v l i c (tt c)) → et_M sc Y_C_spell (d + 3) 0 0 (fun r h' n' => r = .inl none ∧ n' = n ∧ (∀ q, (q < 22 ∨ 62 < q) → h' q = h q) ∧ (∃ tr, h' 62 = .inl (0, 60, .inl tr)) ∧ ∃ tt, et_TM tt h' ∧ ∀ c, c < gC x.1 → (v c).1 ≤ kM → (v c).2.1 ≤ most → chs (tt c) (v c).2.1 ∧ num (tt c) (v c).2.1 = (v c).2.2) 44 [some (.ref 17), some (.int (nI most)), some (.int (nI l)), some (.int (nI i))] [] hh n 0 0 := by
    intro l hl1 hlm K s
    induction s with
    | zero =>
      intro i tt tr hh hi hT k62 fr hs
      obtain rfl : i = gN x.1 := by omega
      have k17 := (fr 17 (by omega)).trans h17
      have k3 := (fr 3 (by omega)).trans h3
      refine et_iload_n (i := 3) d_C_spell_44 rfl rfl ?_
      refine et_aload_n (i := 0) d_C_spell_45 rfl rfl ?_
      refine et_getf (ci := 0) 4 d_C_spell_46 k17 rfl in_C (by decide) fl_C_30 rfl ?_
      refine et_getf (ci := 1) 4 d_C_spell_49 k3 rfl in_G (by decide) fl_C_51 rfl ?_
      refine et_icmp_ge (tgt := 95) d_C_spell_52 (by decide) (fun _ => ?_) (fun q => absurd (nI_le (Nat.le_refl _) (by omega)) q)
      exact K tt tr hh _ hT k62 fr hs
    | succ s ih =>
      intro i tt tr hh hi hT k62 fr hs
      have hi' : i < gN x.1 := by omega
      have k17 := (fr 17 (by omega)).trans h17
      have k3 := (fr 3 (by omega)).trans h3
      have k7 := (fr 7 (by omega)).trans h7
      have k20 := (fr 20 (by omega)).trans h20
      have gg := hg.same (fun k a b => fr k (by omega))
      have hc2 : et_CH p18 (v2 v) (gC x.1) hh := ⟨k17, (fr 18 (by omega)).trans h18, c19, c20, (fr 19 (by omega)).trans h19, k20, hcl⟩
      obtain ⟨e1, e2, e3, e4⟩ := hnode i hi'
      obtain ⟨o1, o2, o3⟩ := ok.2.2 i hi'
      have lenb : (v (gH x.1 i)).2.1 ≤ kM + 1 := by have := hvo _ o1; exact Nat.le_trans this.2.1 this.1
      have skip : ((v (gH x.1 i)).1 ≤ kM → (v (gH x.1 i)).2.1 = l → ¬ opN x.1 pr v i) → et_M sc Y_C_spell (d + 3) 0 0 (fun r h' n' => r = .inl none ∧ n' = n ∧ (∀ q, (q < 22 ∨ 62 < q) → h' q = h q) ∧ (∃ tr, h' 62 = .inl (0, 60, .inl tr)) ∧ ∃ tt, et_TM tt h' ∧ ∀ c, c < gC x.1 → (v c).1 ≤ kM → (v c).2.1 ≤ most → chs (tt c) (v c).2.1 ∧ num (tt c) (v c).2.1 = (v c).2.2) 89 [some (.ref 17), some (.int (nI most)), some (.int (nI l)), some (.int (nI i))] [] hh n 0 0 := by
        intro hno
        refine et_iinc (lv' := [_, _, _, _]) d_C_spell_89 rfl (v := nI (i + 1)) (nI_1 i) (by decide) rfl rfl ?_
        refine et_goto (tgt := 44) d_C_spell_92 (by decide) ?_
        exact ih (i + 1) tt tr hh (by omega) hT k62 fr (fun c hc => sp_skip (hs c hc) (fun a b e => by subst e; exact hno a b))
      refine et_iload_n (i := 3) d_C_spell_44 rfl rfl ?_
      refine et_aload_n (i := 0) d_C_spell_45 rfl rfl ?_
      refine et_getf (ci := 0) 4 d_C_spell_46 k17 rfl in_C (by decide) fl_C_30 rfl ?_
      refine et_getf (ci := 1) 4 d_C_spell_49 k3 rfl in_G (by decide) fl_C_51 rfl ?_
      refine et_icmp_ge (tgt := 95) d_C_spell_52 (by decide) (fun q => absurd q (nI_ge (by omega) (by omega))) (fun _ => ?_)
      refine et_aload_n (i := 0) d_C_spell_55 rfl rfl ?_
      refine et_getf (ci := 0) 2 d_C_spell_56 k17 rfl in_C (by decide) fl_C_19 rfl ?_
      refine et_aload_n (i := 0) d_C_spell_59 rfl rfl ?_
      refine et_getf (ci := 0) 4 d_C_spell_60 k17 rfl in_C (by decide) fl_C_30 rfl ?_
      refine et_getf (ci := 1) 3 d_C_spell_63 k3 rfl in_G (by decide) fl_C_58 rfl ?_
      refine et_iload_n (i := 3) d_C_spell_66 rfl rfl ?_
      refine et_ialn d_C_spell_67 k7 (by omega) (by first | decide | omega) ?_
      rw [e4]
      refine et_laln d_C_spell_68 k20 (by omega) (by first | decide | omega) ?_
      rw [(hcl _ o1).2]
      refine et_iload_n (i := 2) d_C_spell_69 rfl rfl ?_
      refine et_i2l d_C_spell_70 (nI_l (by omega)) ?_
      refine et_lcmp d_C_spell_71 ?_
      refine et_if_ne (tgt := 89) d_C_spell_72 (by decide) (fun q => ?_) (fun q => ?_)
      · exact skip fun _ b => absurd ((lg_cmp_eq _ _).mpr (by rw [← b]; rfl)) q
      · have q2 : (v2 v (gH x.1 i)).2 = l := (pk_lEQ (by show (v (gH x.1 i)).2.1 < _; omega) (by omega)).mp ((lg_cmp_eq _ _).mp q)
        have q3 : (v (gH x.1 i)).2.1 = l := q2
        have hf : (v (gH x.1 i)).1 ≤ kM := by
          rcases hv.2.2 _ o1 with z | z
          · exact z
          · rw [z] at q3; have q3 : 0 = l := q3; omega
        refine et_aload_n (i := 0) d_C_spell_75 rfl rfl ?_
        refine et_iload_n (i := 3) d_C_spell_76 rfl rfl ?_
        refine et_invV mV_C_isBest (As := [_]) rfl d_C_spell_77 lk_C_83 len_C_isBest k17 rfl (Nat.le_of_ble_eq_true rfl) (c_C_isBest (d := d) (pr := pr) (w := v2 v) i hi' ok ar gg hc2 hp wb hf) (Nat.le_refl _) (Nat.le_of_ble_eq_true rfl) (Nat.le_of_ble_eq_true rfl) (fun v h1 n' hp => ?_) (fun x h' n' hp => by obtain ⟨-, -, ⟨e, -⟩ | ⟨e, -⟩⟩ := hp <;> cases e)
        obtain ⟨hn2, hh2, hres⟩ := hp
        replace hh2 := hh2.symm
        subst hh2
        replace hn2 := hn2.symm
        subst hn2
        rcases hres with ⟨hv1, hop⟩ | ⟨hv1, hop⟩
        · cases hv1
          have hop : opN x.1 pr v i := hop
          have hB : pB x.1 pr (v2 v) i = v2 v (gH x.1 i) := hop
          have hlen : 1 + (pA (v2 v) (gL x.1 i)).2 + (pA (v2 v) (gR x.1 i)).2 = l := by
            have := congrArg Prod.snd hB
            exact this.trans q2
          refine et_if_eq (tgt := 89) d_C_spell_80 (by decide) (fun q => absurd q (by decide)) (fun _ => ?_)
          refine et_aload_n (i := 0) d_C_spell_83 rfl rfl ?_
          refine et_iload_n (i := 3) d_C_spell_84 rfl rfl ?_
          refine et_iload_n (i := 2) d_C_spell_85 rfl rfl ?_
          refine et_invV mV_C_spellNode (As := [_, _]) rfl d_C_spell_86 lk_C_86 len_C_spellNode k17 rfl (Nat.le_of_ble_eq_true rfl) (c_C_spellNode (d := d + 1) (w := v2 v) i l hi' ok gg hc2 hT k62 hlen (by omega)) (Nat.le_refl _) (Nat.le_of_ble_eq_true rfl) (Nat.le_of_ble_eq_true rfl) (fun v h2 n' hp => ?_) (fun x h' n' hp => by cases hp.1)
          obtain ⟨hv1, hn2, tr2, l62, ⟨s1, s2, s3⟩, hres⟩ := hp
          cases hv1
          replace hn2 := hn2.symm
          subst hn2
          have pch : ∀ b, (gL x.1 i = b + 1 ∨ gR x.1 i = b + 1) → b < gC x.1 ∧ chs (tt b) (v b).2.1 ∧ num (tt b) (v b).2.1 = (v b).2.2 := by
            intro b hb
            have hbc : b < gC x.1 := by rcases hb with z | z <;> omega
            obtain ⟨z1, z2⟩ := op_part hop hf hb
            exact ⟨hbc, (hs b hbc).1 z1 (by omega)⟩
          have cL : chs (fun j => tr2 (1 + j)) (pA (v2 v) (gL x.1 i)).2 ∧ num (fun j => tr2 (1 + j)) (pA (v2 v) (gL x.1 i)).2 = (cA v (gL x.1 i)).2.2 := by
            cases hL : gL x.1 i with
            | zero => exact ⟨fun j hj => absurd hj (Nat.not_lt_zero _), rfl⟩
            | succ b =>
              obtain ⟨z0, z1, z2⟩ := pch b (Or.inl hL)
              have eq : ∀ j, j < (v b).2.1 → tr2 (1 + j) = tt b j := s2 b hL
              exact ⟨fun j hj => by show 0 ≤ tr2 (1 + j) ∧ (tr2 (1 + j)).toNatClampNeg < 128; rw [eq j hj]; exact z1 j hj, (num_same (t' := tt b) eq).trans z2⟩
          have cR : chs (fun j => tr2 (1 + (pA (v2 v) (gL x.1 i)).2 + j)) (pA (v2 v) (gR x.1 i)).2 ∧ num (fun j => tr2 (1 + (pA (v2 v) (gL x.1 i)).2 + j)) (pA (v2 v) (gR x.1 i)).2 = (cA v (gR x.1 i)).2.2 := by
            cases hR : gR x.1 i with
            | zero => exact ⟨fun j hj => absurd hj (Nat.not_lt_zero _), rfl⟩
            | succ b =>
              obtain ⟨z0, z1, z2⟩ := pch b (Or.inr hR)
              have eq : ∀ j, j < (v b).2.1 → tr2 (1 + (pA (v2 v) (gL x.1 i)).2 + j) = tt b j := s3 b hR
              exact ⟨fun j hj => by show 0 ≤ tr2 (1 + (pA (v2 v) (gL x.1 i)).2 + j) ∧ (tr2 (1 + (pA (v2 v) (gL x.1 i)).2 + j)).toNatClampNeg < 128; rw [eq j hj]; exact z1 j hj, (num_same (t' := tt b) eq).trans z2⟩
          obtain ⟨g1, g2⟩ := gS_c i hi'
          have chT : chs tr2 l := by
            intro j hj
            by_cases z0 : j = 0
            · rw [z0, s1]; exact ⟨g1, by omega⟩
            · by_cases z1 : j < 1 + (pA (v2 v) (gL x.1 i)).2
              · have this : 0 ≤ tr2 (1 + (j - 1)) ∧ (tr2 (1 + (j - 1))).toNatClampNeg < 128 := cL.1 (j - 1) (by omega)
                rw [show 1 + (j - 1) = j by omega] at this
                exact this
              · have this : 0 ≤ tr2 (1 + (pA (v2 v) (gL x.1 i)).2 + (j - (1 + (pA (v2 v) (gL x.1 i)).2))) ∧ (tr2 (1 + (pA (v2 v) (gL x.1 i)).2 + (j - (1 + (pA (v2 v) (gL x.1 i)).2)))).toNatClampNeg < 128 := cR.1 (j - (1 + (pA (v2 v) (gL x.1 i)).2)) (by omega)
                rw [show 1 + (pA (v2 v) (gL x.1 i)).2 + (j - (1 + (pA (v2 v) (gL x.1 i)).2)) = j by omega] at this
                exact this
          have nuT : num tr2 l = (cB x.1 pr v i).2.2 := by
            rw [← hlen, num_node, cL.2, cR.2, s1]
            show _ = (if _ then _ else _)
            rw [if_pos (by have := hlen; rw [pA_v2, pA_v2] at this; show 1 + (cA v (gL x.1 i)).2.1 + (cA v (gR x.1 i)).2.1 ≤ 60; omega), pA_v2, pA_v2]
          rcases hres with ⟨t', l1, l2, fr2, l3⟩ | ⟨fr2, l3⟩
          · refine et_iinc (lv' := [_, _, _, _]) d_C_spell_89 rfl (v := nI (i + 1)) (nI_1 i) (by decide) rfl rfl ?_
            refine et_goto (tgt := 44) d_C_spell_92 (by decide) ?_
            refine ih (i + 1) (gUp tt (gH x.1 i) t') tr2 h2 (by omega) ⟨?_, fun q hq => ?_⟩ l62 (fun q hq => (fr2 q (by omega) (by omega)).trans (fr q hq)) (fun c hc => ?_)
            · obtain ⟨⟨tf, z1, z2⟩, -⟩ := hT
              exact ⟨tf, (fr2 21 (by decide) (by omega)).trans z1, z2⟩
            · by_cases e : q = gH x.1 i
              · rw [e, gUp_s]; exact l1
              · rw [gUp_n _ _ e]; exact (fr2 _ (by omega) (by omega)).trans (hT.2 q hq)
            · by_cases e : c = gH x.1 i
              · subst e
                rw [gUp_s]
                exact sp_put (hs _ hc) q3 hop chT nuT l2 hf l3
              · rw [gUp_n _ _ e]
                exact sp_skip (hs c hc) (fun _ _ z => absurd z.symm e)
          · refine et_iinc (lv' := [_, _, _, _]) d_C_spell_89 rfl (v := nI (i + 1)) (nI_1 i) (by decide) rfl rfl ?_
            refine et_goto (tgt := 44) d_C_spell_92 (by decide) ?_
            refine ih (i + 1) tt tr2 h2 (by omega) ⟨?_, fun q hq => (fr2 _ (by omega)).trans (hT.2 q hq)⟩ l62 (fun q hq => (fr2 q (by omega)).trans (fr q hq)) (fun c hc => ?_)
            · obtain ⟨⟨tf, z1, z2⟩, -⟩ := hT
              exact ⟨tf, (fr2 21 (by decide)).trans z1, z2⟩
            · by_cases e : c = gH x.1 i
              · subst e
                exact sp_no (hs _ hc) q3 hl1 (by rw [s1]; exact g2) nuT hf l3
              · exact sp_skip (hs c hc) (fun _ _ z => absurd z.symm e)
        · cases hv1
          refine et_if_eq (tgt := 89) d_C_spell_80 (by decide) (fun _ => ?_) (fun q => absurd rfl q)
          exact skip fun _ _ => hop
  have outer : ∀ (s l : Nat) (tt : Nat → Nat → Int32) (tr : Nat → Int32) (hh : Nat → et_MC) (o3 : Option Value), l + s = most + 1 → 1 ≤ l → et_TM tt hh → hh 62 = .inl (0, 60, .inl tr) → (∀ q, (q < 22 ∨ 62 < q) → hh q = h q) → (∀ c, c < gC x.1 → spC x.1 pr v l 0 c (tt c)) → et_M sc Y_C_spell (d + 3) 0 0 (fun r h' n' => r = .inl none ∧ n' = n ∧ (∀ q, (q < 22 ∨ 62 < q) → h' q = h q) ∧ (∃ tr, h' 62 = .inl (0, 60, .inl tr)) ∧ ∃ tt, et_TM tt h' ∧ ∀ c, c < gC x.1 → (v c).1 ≤ kM → (v c).2.1 ≤ most → chs (tt c) (v c).2.1 ∧ num (tt c) (v c).2.1 = (v c).2.2) 31 [some (.ref 17), some (.int (nI most)), some (.int (nI l)), none] [] hh n 0 0 := by
    intro s
    induction s with
    | zero =>
      intro l tt tr hh o3 hl h1l hT k62 fr hs
      obtain rfl : l = most + 1 := by omega
      refine et_iload_n (i := 2) d_C_spell_31 rfl rfl ?_
      refine et_iload_n (i := 1) d_C_spell_32 rfl rfl ?_
      refine et_icmp_gt (tgt := 101) d_C_spell_33 (by decide) (fun _ => ?_) (fun q => absurd (nI_lt (by omega) (by omega)) q)
      exact et_vret d_C_spell_101 rfl (Nat.le_refl _) (Nat.le_refl _) ⟨rfl, rfl, fr, ⟨tr, k62⟩, tt, hT, fun c hc h1 h2 => (hs c hc).1 h1 (by omega)⟩
    | succ s ih =>
      intro l tt tr hh o3 hl h1l hT k62 fr hs
      refine et_iload_n (i := 2) d_C_spell_31 rfl rfl ?_
      refine et_iload_n (i := 1) d_C_spell_32 rfl rfl ?_
      refine et_icmp_gt (tgt := 101) d_C_spell_33 (by decide) (fun q => absurd q (Int32.not_lt.mpr (nI_le (by omega) (by omega)))) (fun _ => ?_)
      refine et_iload_n (i := 2) d_C_spell_36 rfl rfl ?_
      refine et_bipush (v := nI 60) d_C_spell_37 (by decide) ?_
      refine et_icmp_gt (tgt := 101) d_C_spell_39 (by decide) (fun q => absurd q (Int32.not_lt.mpr (nI_le (by omega) (by omega)))) (fun _ => ?_)
      refine et_iconst (v := nI 0) d_C_spell_42 (by decide) ?_
      refine et_istore_n (i := 3) (lv' := [_, _, _, _]) d_C_spell_43 rfl (by decide) rfl rfl ?_
      refine inner l h1l (by omega) (fun tt tr hh o3 hT k62 fr hs => ?_) (gN x.1) 0 tt tr hh (by omega) hT k62 fr hs
      refine et_iinc (lv' := [_, _, _, _]) d_C_spell_95 rfl (v := nI (l + 1)) (nI_1 l) (by decide) rfl rfl ?_
      refine et_goto (tgt := 31) d_C_spell_98 (by decide) ?_
      exact et_weak et_w4a (ih (l + 1) tt tr hh none (by omega) (by omega) hT k62 fr (fun c hc => sp_next hv hc (hs c hc)))
  have first : ∀ (s i : Nat) (tt : Nat → Nat → Int32) (hh : Nat → et_MC), i + s = gC x.1 → et_TM tt hh → (∀ q, (q < 22 ∨ 61 < q) → hh q = h q) → (∀ c, c < i → tt c 0 = 127) → et_M sc Y_C_spell (d + 3) 0 0 (fun r h' n' => r = .inl none ∧ n' = n ∧ (∀ q, (q < 22 ∨ 62 < q) → h' q = h q) ∧ (∃ tr, h' 62 = .inl (0, 60, .inl tr)) ∧ ∃ tt, et_TM tt h' ∧ ∀ c, c < gC x.1 → (v c).1 ≤ kM → (v c).2.1 ≤ most → chs (tt c) (v c).2.1 ∧ num (tt c) (v c).2.1 = (v c).2.2) 2 [some (.ref 17), some (.int (nI most)), some (.int (nI i)), none] [] hh n 0 0 := by
    intro s
    induction s with
    | zero =>
      intro i tt hh hi hT fr hs
      obtain rfl : i = gC x.1 := by omega
      have k17 := (fr 17 (by omega)).trans h17
      have k3 := (fr 3 (by omega)).trans h3
      refine et_iload_n (i := 2) d_C_spell_2 rfl rfl ?_
      refine et_aload_n (i := 0) d_C_spell_3 rfl rfl ?_
      refine et_getf (ci := 0) 4 d_C_spell_4 k17 rfl in_C (by decide) fl_C_30 rfl ?_
      refine et_getf (ci := 1) 5 d_C_spell_7 k3 rfl in_G (by decide) fl_C_45 rfl ?_
      refine et_icmp_ge (tgt := 29) d_C_spell_10 (by decide) (fun _ => ?_) (fun q => absurd (nI_le (Nat.le_refl _) (by omega)) q)
      refine et_iconst (v := nI 1) d_C_spell_29 (by decide) ?_
      refine et_istore_n (i := 2) (lv' := [_, _, _, _]) d_C_spell_30 rfl (by decide) rfl rfl ?_
      exact outer most 1 tt tr0 hh none (by omega) (Nat.le_refl _) hT ((fr 62 (by omega)).trans h62) (fun q hq => fr q (by omega)) (fun c hc => sp_init hv hc (hs c hc))
    | succ s ih =>
      intro i tt hh hi hT fr hs
      have k17 := (fr 17 (by omega)).trans h17
      have k3 := (fr 3 (by omega)).trans h3
      obtain ⟨⟨tf, z1, z2⟩, z3⟩ := id hT
      refine et_iload_n (i := 2) d_C_spell_2 rfl rfl ?_
      refine et_aload_n (i := 0) d_C_spell_3 rfl rfl ?_
      refine et_getf (ci := 0) 4 d_C_spell_4 k17 rfl in_C (by decide) fl_C_30 rfl ?_
      refine et_getf (ci := 1) 5 d_C_spell_7 k3 rfl in_G (by decide) fl_C_45 rfl ?_
      refine et_icmp_ge (tgt := 29) d_C_spell_10 (by decide) (fun q => absurd q (nI_ge (by omega) (by omega))) (fun _ => ?_)
      refine et_aload_n (i := 0) d_C_spell_13 rfl rfl ?_
      refine et_getf (ci := 0) 3 d_C_spell_14 k17 rfl in_C (by decide) fl_C_24 rfl ?_
      refine et_iload_n (i := 2) d_C_spell_17 rfl rfl ?_
      refine et_ald4 (r := 22 + i) d_C_spell_18 z1 (vp_in_nI (by omega) (by decide)) (by rw [nI_clamp (by omega)]; exact z2 i (by omega)) ?_
      refine et_iconst (v := nI 0) d_C_spell_19 (by decide) ?_
      refine et_bipush (v := 127) d_C_spell_20 (by decide) ?_
      refine et_iasn d_C_spell_22 (z3 i (by omega)) (by omega) (by first | decide | omega) ?_
      refine et_iinc (lv' := [_, _, _, _]) d_C_spell_23 rfl (v := nI (i + 1)) (nI_1 i) (by decide) rfl rfl ?_
      refine et_goto (tgt := 2) d_C_spell_26 (by decide) ?_
      refine ih (i + 1) (gUp tt i (upd (tt i) 0 127)) _ (by omega) ⟨⟨tf, (va_ne (by omega)).trans z1, z2⟩, fun q hq => ?_⟩ (fun q hq => (va_ne (by omega)).trans (fr q hq)) (fun c hc => ?_)
      · by_cases e : q = i
        · subst e; rw [gUp_s]; exact va_eq
        · rw [gUp_n _ _ e]; exact (va_ne (by omega)).trans (z3 q hq)
      · by_cases e : c = i
        · subst e; rw [gUp_s, pk_us]
        · rw [gUp_n _ _ e]; exact hs c (by omega)
  refine et_iconst (v := nI 0) d_C_spell_0 (by decide) ?_
  refine et_istore_n (i := 2) (lv' := [_, _, _, _]) d_C_spell_1 rfl (by decide) rfl rfl ?_
  exact first (gC x.1) 0 tt0 h (by omega) hT (fun _ _ => rfl) (fun c hc => absurd hc (Nat.not_lt_zero _))
