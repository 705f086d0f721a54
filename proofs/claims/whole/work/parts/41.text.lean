theorem et_w6 {a b c d e o5 : Option Value} : ∀ (j : Nat) (v : Value), ([a, b, c, d, e, none] : List (Option Value))[j]? = some (some v) → ([a, b, c, d, e, o5] : List (Option Value))[j]? = some (some v)
  | 0, _, h => h
  | 1, _, h => h
  | 2, _, h => h
  | 3, _, h => h
  | 4, _, h => h
  | 5, _, h => by simp at h
  | j + 6, _, h => by simp at h
set_option maxHeartbeats 4000000 in
set_option maxRecDepth 100000 in
theorem c_T_inFirstSide {sc : et_X} {h : Nat → et_MC} {d n : Nat} {sz wp : Int32} {f : Nat → Int32} (md : Nat) (s : Int32) (hmd : md ≤ 60) (h1 : h 1 = .inr (4, [.ref 2, .int sz, .int (nI md), .int wp])) (h2 : h 2 = .inl (0, 60, .inl f)) : et_Cn sc Y_T_inFirstSide d [.ref 1, .int s] h n 0 0 (fun r h' n' => r = .inl (some (.int (bI (inF f s md)))) ∧ n' = n ∧ h' = h) := by
  refine et_Cn.of 1 rfl rfl (by decide) mV_T_inFirstSide.1 ?_
  have loop : ∀ (t i : Nat), i + t = md → inF f s i = false → et_M sc Y_T_inFirstSide d 0 0 (fun r h' n' => r = .inl (some (.int (bI (inF f s md)))) ∧ n' = n ∧ h' = h) 2 [some (.ref 1), some (.int s), some (.int (nI i))] [] h n 0 0 := by
    intro t
    induction t with
    | zero =>
      intro i hi hno
      obtain rfl : i = md := by omega
      refine et_iload_n (i := 2) d_T_inFirstSide_2 rfl rfl ?_
      refine et_aload_n (i := 0) d_T_inFirstSide_3 rfl rfl ?_
      refine et_getf (ci := 4) 2 d_T_inFirstSide_4 h1 rfl in_T (by decide) fl_T_19 rfl ?_
      refine et_icmp_ge (tgt := 28) d_T_inFirstSide_7 (by decide) (fun _ => ?_) (fun q => absurd (nI_le (Nat.le_refl _) (by omega)) q)
      refine et_iconst (v := 0) d_T_inFirstSide_28 (by decide) ?_
      exact et_zret d_T_inFirstSide_29 rfl rfl (Nat.le_of_ble_eq_true rfl) (Nat.le_of_ble_eq_true rfl) ⟨by rw [hno]; rfl, rfl, rfl⟩
    | succ t ih =>
      intro i hi hno
      refine et_iload_n (i := 2) d_T_inFirstSide_2 rfl rfl ?_
      refine et_aload_n (i := 0) d_T_inFirstSide_3 rfl rfl ?_
      refine et_getf (ci := 4) 2 d_T_inFirstSide_4 h1 rfl in_T (by decide) fl_T_19 rfl ?_
      refine et_icmp_ge (tgt := 28) d_T_inFirstSide_7 (by decide) (fun q => absurd q (nI_ge (by omega) (by omega))) (fun _ => ?_)
      refine et_aload_n (i := 0) d_T_inFirstSide_10 rfl rfl ?_
      refine et_getf (ci := 4) 0 d_T_inFirstSide_11 h1 rfl in_T (by decide) fl_T_9 rfl ?_
      refine et_iload_n (i := 2) d_T_inFirstSide_14 rfl rfl ?_
      refine et_ialn d_T_inFirstSide_15 h2 (by omega) (by first | decide | omega) ?_
      refine et_iload_n (i := 1) d_T_inFirstSide_16 rfl rfl ?_
      refine et_icmp_ne (tgt := 22) d_T_inFirstSide_17 (by decide) (fun q => ?_) (fun q => ?_)
      · refine et_iinc (lv' := [_, _, _]) d_T_inFirstSide_22 rfl (v := nI (i + 1)) (nI_1 i) (by decide) rfl rfl ?_
        refine et_goto (tgt := 2) d_T_inFirstSide_25 (by decide) ?_
        exact ih (i + 1) (by omega) (by simp [inF, hno, q])
      · have e : inF f s md = true := inF_iff.mpr ⟨i, by omega, q⟩
        refine et_iconst (v := 1) d_T_inFirstSide_20 (by decide) ?_
        exact et_zret d_T_inFirstSide_21 rfl rfl (Nat.le_of_ble_eq_true rfl) (Nat.le_of_ble_eq_true rfl) ⟨by rw [e]; rfl, rfl, rfl⟩
  refine et_iconst (v := 0) d_T_inFirstSide_0 (by decide) ?_
  refine et_istore_n (i := 2) (lv' := [_, _, _]) d_T_inFirstSide_1 rfl (by decide) rfl rfl ?_
  exact loop md 0 (by omega) rfl
set_option maxHeartbeats 4000000 in
set_option maxRecDepth 100000 in
theorem c_T_partsInRule {sc : et_X} {h : Nat → et_MC} {d n : Nat} {sz wp : Int32} {f : Nat → Int32} (mid i : Nat) (hmi : mid ≤ i) (hi : i < 60) (h1 : h 1 = .inr (4, [.ref 2, .int sz, .int (eI mid), .int wp])) (h2 : h 2 = .inl (0, 60, .inl f)) : et_Cn sc Y_T_partsInRule (d + 2) [.ref 1, .int (nI i)] h n 0 0 (fun r h' n' => r = .inl (some (.int (prI f mid i))) ∧ n' = n ∧ h' = h) := by
  refine et_Cn.of 1 rfl rfl (by decide) mV_T_partsInRule.1 ?_
  have go : et_M sc Y_T_partsInRule (d + 2) 0 0 (fun r h' n' => r = .inl (some (.int (prI f mid i))) ∧ n' = n ∧ h' = h) 19 [some (.ref 1), some (.int (nI i)), some (.int (nI mid))] [] h n 0 0 := by
    refine et_iload_n (i := 1) d_T_partsInRule_19 rfl rfl ?_
    refine et_iload_n (i := 2) d_T_partsInRule_20 rfl rfl ?_
    refine et_isub d_T_partsInRule_21 ?_
    rw [nI_sub hmi]
    refine et_bipush (v := 7) d_T_partsInRule_22 (by decide) ?_
    refine et_icmp_lt (tgt := 29) d_T_partsInRule_24 (by decide) (fun q => ?_) (fun q => ?_)
    rotate_left
    · have q2 : 7 ≤ i - mid := Nat.not_lt.mp fun z => q (nI_lt (b := 7) z (by decide))
      refine et_iconst (v := (-1)) d_T_partsInRule_27 (by decide) ?_
      exact et_iret d_T_partsInRule_28 rfl (Nat.le_of_ble_eq_true rfl) (Nat.le_of_ble_eq_true rfl) ⟨by rw [prI, if_pos q2], rfl, rfl⟩
    have q2 : ¬ 7 ≤ i - mid := Nat.not_le.mpr ((nI_ltI (by omega) (by decide)).mp (show nI (i - mid) < nI 7 from q))
    have last : ¬ (mid ≠ 0 ∧ et_isv (f i) ∧ inF f (f i) (mid - 1) = false) → et_M sc Y_T_partsInRule (d + 2) 0 0 (fun r h' n' => r = .inl (some (.int (prI f mid i))) ∧ n' = n ∧ h' = h) 64 [some (.ref 1), some (.int (nI i)), some (.int (nI mid))] [] h n 0 0 := by
      intro hno
      refine et_aload_n (i := 0) d_T_partsInRule_64 rfl rfl ?_
      refine et_getf (ci := 4) 0 d_T_partsInRule_65 h1 rfl in_T (by decide) fl_T_9 rfl ?_
      refine et_iload_n (i := 1) d_T_partsInRule_68 rfl rfl ?_
      refine et_ialn d_T_partsInRule_69 h2 (by omega) (by first | decide | omega) ?_
      refine et_invS mS_S_partsInPattern (As := [_]) rfl d_T_partsInRule_70 lk_T_60 len_S_partsInPattern (Nat.le_of_ble_eq_true rfl) (c_S_partsInPattern (d := d) (f i)) (Nat.le_refl _) (Nat.le_of_ble_eq_true rfl) (Nat.le_of_ble_eq_true rfl) (fun v h' n' hp => ?_) (fun x h' n' hp => by cases hp.1)
      obtain ⟨hv, hn2, hh2⟩ := hp
      cases hv
      subst hh2
      replace hn2 := hn2.symm
      subst hn2
      exact et_iret d_T_partsInRule_73 rfl (Nat.le_of_ble_eq_true rfl) (Nat.le_of_ble_eq_true rfl) ⟨by rw [prI, if_neg q2, if_neg hno], rfl, rfl⟩
    refine et_aload_n (i := 0) d_T_partsInRule_29 rfl rfl ?_
    refine et_getf (ci := 4) 2 d_T_partsInRule_30 h1 rfl in_T (by decide) fl_T_19 rfl ?_
    refine et_iconst (v := (-1)) d_T_partsInRule_33 (by decide) ?_
    cases mid with
    | zero =>
      rw [eI_0]
      exact et_icmp_eq (tgt := 64) d_T_partsInRule_34 (by decide) (fun _ => last (fun z => z.1 rfl)) (fun q => absurd rfl q)
    | succ md =>
      rw [eI_s] at h1 ⊢
      refine et_icmp_eq (tgt := 64) d_T_partsInRule_34 (by decide) (fun q => absurd q (eI_ns (by omega))) (fun _ => ?_)
      refine et_aload_n (i := 0) d_T_partsInRule_37 rfl rfl ?_
      refine et_getf (ci := 4) 0 d_T_partsInRule_38 h1 rfl in_T (by decide) fl_T_9 rfl ?_
      refine et_iload_n (i := 1) d_T_partsInRule_41 rfl rfl ?_
      refine et_ialn d_T_partsInRule_42 h2 (by omega) (by first | decide | omega) ?_
      refine et_invS mS_S_isVariable (As := [_]) rfl d_T_partsInRule_43 lk_T_54 len_S_isVariable (Nat.le_of_ble_eq_true rfl) (c_S_isVariable (d := d + 1) (f i)) (Nat.le_refl _) (Nat.le_of_ble_eq_true rfl) (Nat.le_of_ble_eq_true rfl) (fun v h' n' hp => ?_) (fun x h' n' hp => by cases hp.1)
      obtain ⟨hv, hn2, hh2⟩ := hp
      cases hv
      subst hh2
      replace hn2 := hn2.symm
      subst hn2
      by_cases ev : et_isv (f i)
      · rw [if_pos ev]
        refine et_if_eq (tgt := 64) d_T_partsInRule_46 (by decide) (fun q => absurd q (by decide)) (fun _ => ?_)
        refine et_aload_n (i := 0) d_T_partsInRule_49 rfl rfl ?_
        refine et_aload_n (i := 0) d_T_partsInRule_50 rfl rfl ?_
        refine et_getf (ci := 4) 0 d_T_partsInRule_51 h1 rfl in_T (by decide) fl_T_9 rfl ?_
        refine et_iload_n (i := 1) d_T_partsInRule_54 rfl rfl ?_
        refine et_ialn d_T_partsInRule_55 h2 (by omega) (by first | decide | omega) ?_
        refine et_invV mV_T_inFirstSide (As := [_]) rfl d_T_partsInRule_56 lk_T_57 len_T_inFirstSide h1 rfl (Nat.le_of_ble_eq_true rfl) (c_T_inFirstSide (d := d + 1) md (f i) (by omega) h1 h2) (Nat.le_refl _) (Nat.le_of_ble_eq_true rfl) (Nat.le_of_ble_eq_true rfl) (fun v h' n' hp => ?_) (fun x h' n' hp => by cases hp.1)
        obtain ⟨hv, hn2, hh2⟩ := hp
        cases hv
        subst hh2
        replace hn2 := hn2.symm
        subst hn2
        cases ei : inF f (f i) md with
        | true => exact et_if_ne (tgt := 64) d_T_partsInRule_59 (by decide) (fun _ => last (fun z => by have := z.2.2; rw [Nat.add_sub_cancel, ei] at this; cases this)) (fun q => absurd q (by decide))
        | false =>
          refine et_if_ne (tgt := 64) d_T_partsInRule_59 (by decide) (fun q => absurd rfl q) (fun _ => ?_)
          refine et_iconst (v := (-1)) d_T_partsInRule_62 (by decide) ?_
          exact et_iret d_T_partsInRule_63 rfl (Nat.le_of_ble_eq_true rfl) (Nat.le_of_ble_eq_true rfl) ⟨by rw [prI, if_neg q2, if_pos ⟨by omega, ev, by rw [Nat.add_sub_cancel]; exact ei⟩], rfl, rfl⟩
      · rw [if_neg ev]
        exact et_if_eq (tgt := 64) d_T_partsInRule_46 (by decide) (fun _ => last (fun z => ev z.2.1)) (fun q => absurd rfl q)
  refine et_aload_n (i := 0) d_T_partsInRule_0 rfl rfl ?_
  refine et_getf (ci := 4) 2 d_T_partsInRule_1 h1 rfl in_T (by decide) fl_T_19 rfl ?_
  refine et_iconst (v := (-1)) d_T_partsInRule_4 (by decide) ?_
  cases mid with
  | zero =>
    rw [eI_0]
    refine et_icmp_ne (tgt := 12) d_T_partsInRule_5 (by decide) (fun q => absurd rfl q) (fun _ => ?_)
    refine et_iconst (v := 0) d_T_partsInRule_8 (by decide) ?_
    refine et_goto (tgt := 18) d_T_partsInRule_9 (by decide) ?_
    refine et_istore_n (i := 2) (lv' := [_, _, _]) d_T_partsInRule_18 rfl (by decide) rfl rfl ?_
    exact go
  | succ md =>
    rw [eI_s]
    refine et_icmp_ne (tgt := 12) d_T_partsInRule_5 (by decide) (fun _ => ?_) (fun q => absurd q (eI_ns (by omega)))
    refine et_aload_n (i := 0) d_T_partsInRule_12 rfl rfl ?_
    refine et_getf (ci := 4) 2 d_T_partsInRule_13 h1 rfl in_T (by decide) fl_T_19 rfl ?_
    refine et_iconst (v := 1) d_T_partsInRule_16 (by decide) ?_
    refine et_iadd d_T_partsInRule_17 ?_
    rw [eI_s, nI_1]
    refine et_istore_n (i := 2) (lv' := [_, _, _]) d_T_partsInRule_18 rfl (by decide) rfl rfl ?_
    exact go
set_option maxHeartbeats 4000000 in
set_option maxRecDepth 100000 in
theorem c_T_firstWrong {sc : et_X} {h : Nat → et_MC} {d n : Nat} {wp md : Int32} {f : Nat → Int32} {sz : Nat} (two pat : Bool) (hsz : sz ≤ 60) (h1 : h 1 = .inr (4, [.ref 2, .int (nI sz), .int md, .int wp])) (h2 : h 2 = .inl (0, 60, .inl f)) : et_Cn sc Y_T_firstWrong (d + 3) [.ref 1, .int (bI two), .int (bI pat)] h n 0 0 (fun r h' n' => r = .inl (some (.int (eI (fwN f two pat sz 0 1 0).1))) ∧ n' = n ∧ h' = va_up h 1 (.inr (4, [.ref 2, .int (nI sz), .int (eI (fwN f two pat sz 0 1 0).2), .int wp]))) := by
  refine et_Cn.of 3 rfl rfl (by decide) mV_T_firstWrong.1 ?_
  have loop : ∀ (t i need mid : Nat), i + t = sz → need ≤ i + 1 → mid ≤ i → fwN f two pat sz 0 1 0 = fwN f two pat t i need mid → et_M sc Y_T_firstWrong (d + 3) 0 0 (fun r h' n' => r = .inl (some (.int (eI (fwN f two pat sz 0 1 0).1))) ∧ n' = n ∧ h' = va_up h 1 (.inr (4, [.ref 2, .int (nI sz), .int (eI (fwN f two pat sz 0 1 0).2), .int wp]))) 10 [some (.ref 1), some (.int (bI two)), some (.int (bI pat)), some (.int (nI (need))), some (.int (nI (i))), none] [] (va_up h 1 (.inr (4, [.ref 2, .int (nI sz), .int (eI mid), .int wp]))) n 0 0 := by
    intro t
    induction t with
    | zero =>
      intro i need mid hi hn hmi hE
      obtain rfl : i = sz := by omega
      refine et_iload d_T_firstWrong_10 rfl ?_
      refine et_aload_n (i := 0) d_T_firstWrong_12 rfl rfl ?_
      refine et_getf (ci := 4) 1 d_T_firstWrong_13 rfl rfl in_T (by decide) fl_T_15 rfl ?_
      refine et_icmp_ge (tgt := 108) d_T_firstWrong_16 (by decide) (fun _ => ?_) (fun q => absurd (nI_le (Nat.le_refl _) (by omega)) q)
      refine et_iload_n (i := 3) d_T_firstWrong_108 rfl rfl ?_
      by_cases n0 : need = 0
      · subst n0
        refine et_if_ne (tgt := 128) d_T_firstWrong_109 (by decide) (fun q => absurd rfl q) (fun _ => ?_)
        refine et_iload_n (i := 1) d_T_firstWrong_112 rfl rfl ?_
        cases two with
        | false =>
          refine et_if_eq (tgt := 124) d_T_firstWrong_113 (by decide) (fun _ => ?_) (fun q => absurd rfl q)
          refine et_iconst (v := 1) d_T_firstWrong_124 (by decide) ?_
          refine et_goto (tgt := 129) d_T_firstWrong_125 (by decide) ?_
          refine et_istore (lv' := [_, _, _, _, _, _]) d_T_firstWrong_129 (by decide) rfl rfl ?_
          refine et_iload d_T_firstWrong_131 rfl ?_
          refine et_if_eq (tgt := 140) d_T_firstWrong_133 (by decide) (fun q => absurd q (by decide)) (fun _ => ?_)
          refine et_iconst (v := (-1)) d_T_firstWrong_136 (by decide) ?_
          refine et_goto (tgt := 144) d_T_firstWrong_137 (by decide) ?_
          exact et_iret d_T_firstWrong_144 rfl (Nat.le_of_ble_eq_true rfl) (Nat.le_of_ble_eq_true rfl) ⟨by rw [hE]; show _ = _; rw [fwN, if_pos ⟨rfl, Or.inl rfl⟩, eI_0], rfl, by rw [hE]; rfl⟩
        | true =>
          refine et_if_eq (tgt := 124) d_T_firstWrong_113 (by decide) (fun q => absurd q (by decide)) (fun _ => ?_)
          refine et_aload_n (i := 0) d_T_firstWrong_116 rfl rfl ?_
          refine et_getf (ci := 4) 2 d_T_firstWrong_117 rfl rfl in_T (by decide) fl_T_19 rfl ?_
          refine et_iconst (v := (-1)) d_T_firstWrong_120 (by decide) ?_
          cases mid with
          | zero =>
            rw [eI_0]
            refine et_icmp_eq (tgt := 128) d_T_firstWrong_121 (by decide) (fun _ => ?_) (fun q => absurd rfl q)
            rw [← eI_0]
            refine et_iconst (v := 0) d_T_firstWrong_128 (by decide) ?_
            refine et_istore (lv' := [_, _, _, _, _, _]) d_T_firstWrong_129 (by decide) rfl rfl ?_
            refine et_iload d_T_firstWrong_131 rfl ?_
            refine et_if_eq (tgt := 140) d_T_firstWrong_133 (by decide) (fun _ => ?_) (fun q => absurd (by decide) q)
            refine et_aload_n (i := 0) d_T_firstWrong_140 rfl rfl ?_
            refine et_getf (ci := 4) 1 d_T_firstWrong_141 rfl rfl in_T (by decide) fl_T_15 rfl ?_
            exact et_iret d_T_firstWrong_144 rfl (Nat.le_of_ble_eq_true rfl) (Nat.le_of_ble_eq_true rfl) ⟨by rw [hE]; show _ = _; rw [fwN, if_neg (fun z => z.2.elim (fun y => by cases y) (fun y => y rfl)), eI_s], rfl, by rw [hE]; rfl⟩
          | succ md' =>
            rw [eI_s]
            refine et_icmp_eq (tgt := 128) d_T_firstWrong_121 (by decide) (fun q => absurd q (eI_ns (by omega))) (fun _ => ?_)
            rw [← eI_s md']
            refine et_iconst (v := 1) d_T_firstWrong_124 (by decide) ?_
            refine et_goto (tgt := 129) d_T_firstWrong_125 (by decide) ?_
            refine et_istore (lv' := [_, _, _, _, _, _]) d_T_firstWrong_129 (by decide) rfl rfl ?_
            refine et_iload d_T_firstWrong_131 rfl ?_
            refine et_if_eq (tgt := 140) d_T_firstWrong_133 (by decide) (fun q => absurd q (by decide)) (fun _ => ?_)
            refine et_iconst (v := (-1)) d_T_firstWrong_136 (by decide) ?_
            refine et_goto (tgt := 144) d_T_firstWrong_137 (by decide) ?_
            exact et_iret d_T_firstWrong_144 rfl (Nat.le_of_ble_eq_true rfl) (Nat.le_of_ble_eq_true rfl) ⟨by rw [hE]; show _ = _; rw [fwN, if_pos ⟨rfl, Or.inr (by omega)⟩, eI_0], rfl, by rw [hE]; rfl⟩
      · refine et_if_ne (tgt := 128) d_T_firstWrong_109 (by decide) (fun _ => ?_) (fun q => absurd ((nI_eq (b := 0) (by omega) (by decide)).mp q) n0)
        refine et_iconst (v := 0) d_T_firstWrong_128 (by decide) ?_
        refine et_istore (lv' := [_, _, _, _, _, _]) d_T_firstWrong_129 (by decide) rfl rfl ?_
        refine et_iload d_T_firstWrong_131 rfl ?_
        refine et_if_eq (tgt := 140) d_T_firstWrong_133 (by decide) (fun _ => ?_) (fun q => absurd (by decide) q)
        refine et_aload_n (i := 0) d_T_firstWrong_140 rfl rfl ?_
        refine et_getf (ci := 4) 1 d_T_firstWrong_141 rfl rfl in_T (by decide) fl_T_15 rfl ?_
        exact et_iret d_T_firstWrong_144 rfl (Nat.le_of_ble_eq_true rfl) (Nat.le_of_ble_eq_true rfl) ⟨by rw [hE]; show _ = _; rw [fwN, if_neg (fun z => n0 z.1), eI_s], rfl, by rw [hE]; rfl⟩
    | succ t ih =>
      intro i need mid hi hn hmi hE
      refine et_iload d_T_firstWrong_10 rfl ?_
      refine et_aload_n (i := 0) d_T_firstWrong_12 rfl rfl ?_
      refine et_getf (ci := 4) 1 d_T_firstWrong_13 rfl rfl in_T (by decide) fl_T_15 rfl ?_
      refine et_icmp_ge (tgt := 108) d_T_firstWrong_16 (by decide) (fun q => absurd q (nI_ge (by omega) (by omega))) (fun _ => ?_)
      refine et_iload_n (i := 3) d_T_firstWrong_19 rfl rfl ?_
      by_cases n0 : need = 0
      · subst n0
        refine et_if_ne (tgt := 61) d_T_firstWrong_20 (by decide) (fun q => absurd rfl q) (fun _ => ?_)
        refine et_iload_n (i := 1) d_T_firstWrong_23 rfl rfl ?_
        cases two with
        | false =>
          refine et_if_eq (tgt := 47) d_T_firstWrong_24 (by decide) (fun _ => ?_) (fun q => absurd rfl q)
          refine et_iload d_T_firstWrong_47 rfl ?_
          exact et_iret d_T_firstWrong_49 rfl (Nat.le_of_ble_eq_true rfl) (Nat.le_of_ble_eq_true rfl) ⟨by rw [hE]; show _ = _; rw [fwN, if_pos rfl, if_pos (Or.inl rfl), eI_s], rfl, by rw [hE, fwN, if_pos rfl, if_pos (Or.inl rfl)]⟩
        | true =>
          refine et_if_eq (tgt := 47) d_T_firstWrong_24 (by decide) (fun q => absurd q (by decide)) (fun _ => ?_)
          refine et_aload_n (i := 0) d_T_firstWrong_27 rfl rfl ?_
          refine et_getf (ci := 4) 2 d_T_firstWrong_28 rfl rfl in_T (by decide) fl_T_19 rfl ?_
          refine et_iconst (v := (-1)) d_T_firstWrong_31 (by decide) ?_
          cases mid with
          | succ md' =>
            rw [eI_s]
            refine et_icmp_ne (tgt := 47) d_T_firstWrong_32 (by decide) (fun _ => ?_) (fun q => absurd q (eI_ns (by omega)))
            rw [← eI_s md']
            refine et_iload d_T_firstWrong_47 rfl ?_
            exact et_iret d_T_firstWrong_49 rfl (Nat.le_of_ble_eq_true rfl) (Nat.le_of_ble_eq_true rfl) ⟨by rw [hE]; show _ = _; rw [fwN, if_pos rfl, if_pos (Or.inr (Or.inl (by omega))), eI_s], rfl, by rw [hE, fwN, if_pos rfl, if_pos (Or.inr (Or.inl (by omega)))]⟩
          | zero =>
            rw [eI_0]
            refine et_icmp_ne (tgt := 47) d_T_firstWrong_32 (by decide) (fun q => absurd rfl q) (fun _ => ?_)
            rw [← eI_0]
            refine et_aload_n (i := 0) d_T_firstWrong_35 rfl rfl ?_
            refine et_getf (ci := 4) 0 d_T_firstWrong_36 rfl rfl in_T (by decide) fl_T_9 rfl ?_
            refine et_iload d_T_firstWrong_39 rfl ?_
            refine et_ialn d_T_firstWrong_41 h2 (by omega) (by first | decide | omega) ?_
            refine et_bipush (v := 61) d_T_firstWrong_42 (by decide) ?_
            refine et_icmp_eq (tgt := 50) d_T_firstWrong_44 (by decide) (fun q => ?_) (fun q => ?_)
            rotate_left
            · refine et_iload d_T_firstWrong_47 rfl ?_
              exact et_iret d_T_firstWrong_49 rfl (Nat.le_of_ble_eq_true rfl) (Nat.le_of_ble_eq_true rfl) ⟨by rw [hE]; show _ = _; rw [fwN, if_pos rfl, if_pos (Or.inr (Or.inr q)), eI_s], rfl, by rw [hE, fwN, if_pos rfl, if_pos (Or.inr (Or.inr q))]⟩
            rw [fwN, if_pos rfl, if_neg (fun z => z.elim (fun y => by cases y) (fun y => y.elim (fun y => y rfl) (fun y => y q)))] at hE
            refine et_aload_n (i := 0) d_T_firstWrong_50 rfl rfl ?_
            refine et_iload d_T_firstWrong_51 rfl ?_
            refine et_putf (ci := 4) 2 d_T_firstWrong_53 rfl rfl in_T ty_T nm_T (by decide) fl_T_19 rfl rfl (fun _ => rfl) (fun _ => rfl) (Nat.le_of_ble_eq_true rfl) (fs' := [_, _, _, _]) rfl ?_
            refine et_iconst (v := 1) d_T_firstWrong_56 (by decide) ?_
            refine et_istore_n (i := 3) (lv' := [_, _, _, _, _, _]) d_T_firstWrong_57 rfl (by decide) rfl rfl ?_
            refine et_goto (tgt := 102) d_T_firstWrong_58 (by decide) ?_
            refine et_iinc (lv' := [_, _, _, _, _, _]) d_T_firstWrong_102 rfl (v := nI (i + 1)) (nI_1 i) (by decide) rfl rfl ?_
            refine et_goto (tgt := 10) d_T_firstWrong_105 (by decide) ?_
            rw [bx_uu, ← eI_s i]
            exact ih (i + 1) 1 (i + 1) (by omega) (by omega) (by omega) hE
      · refine et_if_ne (tgt := 61) d_T_firstWrong_20 (by decide) (fun _ => ?_) (fun q => absurd ((nI_eq (b := 0) (by omega) (by decide)).mp q) n0)
        have rest : et_M sc Y_T_firstWrong (d + 3) 0 0 (fun r h' n' => r = .inl (some (.int (eI (fwN f two pat sz 0 1 0).1))) ∧ n' = n ∧ h' = va_up h 1 (.inr (4, [.ref 2, .int (nI sz), .int (eI (fwN f two pat sz 0 1 0).2), .int wp]))) 84 [some (.ref 1), some (.int (bI two)), some (.int (bI pat)), some (.int (nI (need))), some (.int (nI (i))), none] [.int (ptI f pat mid i)] (va_up h 1 (.inr (4, [.ref 2, .int (nI sz), .int (eI mid), .int wp]))) n 0 0 := by
          refine et_istore (lv' := [_, _, _, _, _, _]) d_T_firstWrong_84 (by decide) rfl rfl ?_
          refine et_iload d_T_firstWrong_86 rfl ?_
          refine et_iconst (v := (-1)) d_T_firstWrong_88 (by decide) ?_
          by_cases e1 : ptI f pat mid i = -1
          · rw [e1]
            refine et_icmp_ne (tgt := 95) d_T_firstWrong_89 (by decide) (fun q => absurd rfl q) (fun _ => ?_)
            refine et_iload d_T_firstWrong_92 rfl ?_
            exact et_iret d_T_firstWrong_94 rfl (Nat.le_of_ble_eq_true rfl) (Nat.le_of_ble_eq_true rfl) ⟨by rw [hE]; show _ = _; rw [fwN, if_neg n0, if_pos e1, eI_s], rfl, by rw [hE, fwN, if_neg n0, if_pos e1]⟩
          · refine et_icmp_ne (tgt := 95) d_T_firstWrong_89 (by decide) (fun _ => ?_) (fun q => absurd q e1)
            rw [fwN, if_neg n0, if_neg e1] at hE
            have p3 : ptI f pat mid i = 0 ∨ ptI f pat mid i = 1 ∨ ptI f pat mid i = 2 := (ptI_cases f pat mid i).resolve_left e1
            have p2 : (ptI f pat mid i).toNatClampNeg ≤ 2 := by rcases p3 with e | e | e <;> rw [e] <;> decide
            refine et_iload_n (i := 3) d_T_firstWrong_95 rfl rfl ?_
            refine et_iload d_T_firstWrong_96 rfl ?_
            refine et_iconst (v := 1) d_T_firstWrong_98 (by decide) ?_
            refine et_isub d_T_firstWrong_99 ?_
            refine et_iadd d_T_firstWrong_100 ?_
            rw [nI_step n0 p3]
            refine et_istore_n (i := 3) (lv' := [_, _, _, _, _, _]) d_T_firstWrong_101 rfl (by decide) rfl rfl ?_
            refine et_iinc (lv' := [_, _, _, _, _, _]) d_T_firstWrong_102 rfl (v := nI (i + 1)) (nI_1 i) (by decide) rfl rfl ?_
            refine et_goto (tgt := 10) d_T_firstWrong_105 (by decide) ?_
            exact et_weak et_w6 (ih (i + 1) _ mid (by omega) (by omega) (by omega) hE)
        refine et_iload_n (i := 2) d_T_firstWrong_61 rfl rfl ?_
        cases pat with
        | true =>
          refine et_if_eq (tgt := 74) d_T_firstWrong_62 (by decide) (fun q => absurd q (by decide)) (fun _ => ?_)
          refine et_aload_n (i := 0) d_T_firstWrong_65 rfl rfl ?_
          refine et_iload d_T_firstWrong_66 rfl ?_
          refine et_invV mV_T_partsInRule (As := [_]) rfl d_T_firstWrong_68 lk_T_45 len_T_partsInRule rfl rfl (Nat.le_of_ble_eq_true rfl) (c_T_partsInRule (d := d) mid i hmi (by omega) rfl h2) (Nat.le_refl _) (Nat.le_of_ble_eq_true rfl) (Nat.le_of_ble_eq_true rfl) (fun v h' n' hp => ?_) (fun x h' n' hp => by cases hp.1)
          obtain ⟨hv, hn2, hh2⟩ := hp
          cases hv
          subst hh2
          replace hn2 := hn2.symm
          subst hn2
          refine et_goto (tgt := 84) d_T_firstWrong_71 (by decide) ?_
          exact rest
        | false =>
          refine et_if_eq (tgt := 74) d_T_firstWrong_62 (by decide) (fun _ => ?_) (fun q => absurd rfl q)
          refine et_aload_n (i := 0) d_T_firstWrong_74 rfl rfl ?_
          refine et_getf (ci := 4) 0 d_T_firstWrong_75 rfl rfl in_T (by decide) fl_T_9 rfl ?_
          refine et_iload d_T_firstWrong_78 rfl ?_
          refine et_ialn d_T_firstWrong_80 h2 (by omega) (by first | decide | omega) ?_
          refine et_invS mS_S_parts (As := [_]) rfl d_T_firstWrong_81 lk_T_49 len_S_parts (Nat.le_of_ble_eq_true rfl) (c_S_parts (d := d) (f i)) (by omega) (Nat.le_of_ble_eq_true rfl) (Nat.le_of_ble_eq_true rfl) (fun v h' n' hp => ?_) (fun x h' n' hp => by cases hp.1)
          obtain ⟨hv, hn2, hh2⟩ := hp
          cases hv
          subst hh2
          replace hn2 := hn2.symm
          subst hn2
          exact rest
  refine et_iconst (v := 1) d_T_firstWrong_0 (by decide) ?_
  refine et_istore_n (i := 3) (lv' := [_, _, _, _, _, _]) d_T_firstWrong_1 rfl (by decide) rfl rfl ?_
  refine et_aload_n (i := 0) d_T_firstWrong_2 rfl rfl ?_
  refine et_iconst (v := (-1)) d_T_firstWrong_3 (by decide) ?_
  refine et_putf (ci := 4) 2 d_T_firstWrong_4 h1 rfl in_T ty_T nm_T (by decide) fl_T_19 rfl rfl (fun _ => rfl) (fun _ => rfl) (Nat.le_of_ble_eq_true rfl) (fs' := [_, _, _, _]) rfl ?_
  refine et_iconst (v := 0) d_T_firstWrong_7 (by decide) ?_
  refine et_istore (lv' := [_, _, _, _, _, _]) d_T_firstWrong_8 (by decide) rfl rfl ?_
  rw [← eI_0]
  exact loop sz 0 1 0 (by omega) (by omega) (Nat.le_refl _) rfl
