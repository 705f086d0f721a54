set_option maxHeartbeats 4000000 in
set_option maxRecDepth 100000 in
theorem c_R_seatParts {sc : et_X} {h : Nat → et_MC} {d n : Nat} {g0 : gr} {y : gx} {ch : Bool} {se vt : Nat → Nat} {k e len : Nat} {row : Nat → Int32} (hk : 85 ≤ k) (I : rdI 40 g0 y) (hr : rOk row e len) (hU : et_RU k row e len h) (hR : et_RH y ch se vt h) (p nn : Nat) (hp : p < e) (hv : ¬ et_isv (row p)) (hnn : nn < gN g0) (hS : gS g0 nn = row p) : et_Cn sc Y_R_seatParts (d + 1) [.ref 13, .ref k, .int (nI p), .int (nI nn)] h n 0 0 (fun r h' n' => r = .inl none ∧ n' = n ∧ (∀ q, q ≠ 14 → h' q = h q) ∧ et_RH y ch (seU g0 (pw (row p)) ((stN row e (e - (p + 1))).getD 1 e) p nn se) vt h') := by
  refine et_Cn.of 1 rfl rfl (by decide) mV_R_seatParts.1 ?_
  obtain ⟨hg, h10, ⟨va, h11, hva⟩, ⟨st, h12⟩, h13, sa, h14, hsa⟩ := hR
  obtain ⟨a4, a5, a6, a7, a8, a9, h3, h4, h5, h6, h7, h8, h9, hA, hN⟩ := id hg
  obtain ⟨u0, u3, ⟨sp, u1, hsp⟩, bd, u2, hbd⟩ := id hU
  have r3 := hr.2.2.1
  have r5 := hr.2.2.2.2.1
  have r4 := hr.2.2.2.1
  obtain ⟨l1, l2, l3, l4⟩ := I.2.1.2.2 nn hnn
  have hny : nn < gN y.1 := Nat.lt_of_lt_of_le hnn I.2.1.1
  have o1 := I.1.1.1
  obtain ⟨-, b2, b3, -⟩ := hA nn hny
  have har := I.1.2.2.2 nn hny
  rw [l1, hS, l2, l3] at har
  rw [l2] at b2
  rw [l3] at b3
  have hpp : et_pp (row p) = et_pt (row p) := by rw [et_pp, if_neg hv]
  have same : ∀ (sa' se' : Nat → _), (∀ q, q < 7 → sa' q = nI (se' q)) → et_RH y ch se' vt (va_up h 14 (.inl (0, 7, .inl sa'))) := fun sa' se' hs => ⟨hg.same (fun k e1 e2 => va_ne (by omega)), h10, ⟨va, h11, hva⟩, ⟨st, h12⟩, h13, sa', rfl, hs⟩
  refine et_aload_n (i := 1) d_R_seatParts_0 rfl rfl ?_
  refine et_getf (ci := 3) 0 d_R_seatParts_1 u0 rfl in_U (by decide) fl_R_68 rfl ?_
  refine et_iload_n (i := 2) d_R_seatParts_4 rfl rfl ?_
  refine et_ialn d_R_seatParts_5 u3 (by omega) (by first | decide | omega) ?_
  refine et_invS mS_S_parts (As := [_]) rfl d_R_seatParts_6 lk_R_93 len_S_parts (Nat.le_of_ble_eq_true rfl) (c_S_parts (d := d) (row p)) (Nat.le_refl _) (Nat.le_of_ble_eq_true rfl) (Nat.le_of_ble_eq_true rfl) (fun v h' n' hp => ?_) (fun x h' n' hp => by cases hp.1)
  obtain ⟨hv, hn2, hh2⟩ := hp
  cases hv
  subst hh2
  replace hn2 := hn2.symm
  subst hn2
  refine et_istore (lv' := [_, _, _, _, _]) d_R_seatParts_9 (by decide) rfl rfl ?_
  refine et_iload d_R_seatParts_11 rfl ?_
  rcases har with ⟨ep, eL, eR⟩ | ⟨ep, eL, eR⟩ | ⟨ep, eL, eR⟩
  · rw [ep]
    refine et_if_le (tgt := 33) d_R_seatParts_13 (by decide) (fun _ => ?_) (fun q => absurd (by decide) q)
    refine et_iload d_R_seatParts_33 rfl ?_
    refine et_iconst (v := 1) d_R_seatParts_35 (by decide) ?_
    refine et_icmp_le (tgt := 59) d_R_seatParts_36 (by decide) (fun _ => ?_) (fun q => absurd (by decide) q)
    refine et_vret d_R_seatParts_59 rfl (Nat.le_of_ble_eq_true rfl) (Nat.le_of_ble_eq_true rfl) ⟨rfl, rfl, fun _ _ => rfl, ?_⟩
    rw [pw_0 (hpp.trans ep)]
    exact ⟨hg, h10, ⟨va, h11, hva⟩, ⟨st, h12⟩, h13, sa, h14, hsa⟩
  · rw [ep]
    have ew := pw_1 (hpp.trans ep)
    obtain ⟨t1, t2⟩ := rOk_pos hr hp (by rw [ew]; decide)
    obtain ⟨lv, hlv⟩ : ∃ lv, gL g0 nn = lv + 1 := ⟨gL g0 nn - 1, by omega⟩
    refine et_if_le (tgt := 33) d_R_seatParts_13 (by decide) (fun q => absurd q (by decide)) (fun _ => ?_)
    refine et_aload_n (i := 0) d_R_seatParts_16 rfl rfl ?_
    refine et_getf (ci := 2) 3 d_R_seatParts_17 h13 rfl in_R (by decide) fl_R_15 rfl ?_
    refine et_iload_n (i := 2) d_R_seatParts_20 rfl rfl ?_
    refine et_iconst (v := 1) d_R_seatParts_21 (by decide) ?_
    refine et_iadd d_R_seatParts_22 ?_
    rw [nI_1]
    refine et_aload_n (i := 0) d_R_seatParts_23 rfl rfl ?_
    refine et_getf (ci := 2) 1 d_R_seatParts_24 h13 rfl in_R (by decide) fl_R_25 rfl ?_
    refine et_getf (ci := 1) 1 d_R_seatParts_27 h3 rfl in_G (by decide) fl_R_97 rfl ?_
    refine et_iload_n (i := 3) d_R_seatParts_30 rfl rfl ?_
    refine et_ialn d_R_seatParts_31 h5 (by omega) (by first | decide | omega) ?_
    rw [b2, hlv, eI_s]
    refine et_iasn d_R_seatParts_32 h14 (by omega) (by first | decide | omega) ?_
    refine et_iload d_R_seatParts_33 rfl ?_
    refine et_iconst (v := 1) d_R_seatParts_35 (by decide) ?_
    refine et_icmp_le (tgt := 59) d_R_seatParts_36 (by decide) (fun _ => ?_) (fun q => absurd (by decide) q)
    refine et_vret d_R_seatParts_59 rfl (Nat.le_of_ble_eq_true rfl) (Nat.le_of_ble_eq_true rfl) ⟨rfl, rfl, fun q hq => va_ne hq, ?_⟩
    rw [ew]
    refine same _ _ (fun q hq => ?_)
    show upd sa (p + 1) (nI lv) q = nI (gUp se (p + 1) (gL g0 nn - 1) q)
    rw [hlv, Nat.add_sub_cancel]
    by_cases eq : q = p + 1
    · rw [eq, pk_us, gUp_s]
    · rw [pk_un eq, gUp_n _ _ eq]; exact hsa q hq
  · rw [ep]
    have ew := pw_2 (hpp.trans ep)
    obtain ⟨t1, t2⟩ := rOk_pos hr hp (by rw [ew]; decide)
    obtain ⟨lv, hlv⟩ : ∃ lv, gL g0 nn = lv + 1 := ⟨gL g0 nn - 1, by omega⟩
    refine et_if_le (tgt := 33) d_R_seatParts_13 (by decide) (fun q => absurd q (by decide)) (fun _ => ?_)
    refine et_aload_n (i := 0) d_R_seatParts_16 rfl rfl ?_
    refine et_getf (ci := 2) 3 d_R_seatParts_17 h13 rfl in_R (by decide) fl_R_15 rfl ?_
    refine et_iload_n (i := 2) d_R_seatParts_20 rfl rfl ?_
    refine et_iconst (v := 1) d_R_seatParts_21 (by decide) ?_
    refine et_iadd d_R_seatParts_22 ?_
    rw [nI_1]
    refine et_aload_n (i := 0) d_R_seatParts_23 rfl rfl ?_
    refine et_getf (ci := 2) 1 d_R_seatParts_24 h13 rfl in_R (by decide) fl_R_25 rfl ?_
    refine et_getf (ci := 1) 1 d_R_seatParts_27 h3 rfl in_G (by decide) fl_R_97 rfl ?_
    refine et_iload_n (i := 3) d_R_seatParts_30 rfl rfl ?_
    refine et_ialn d_R_seatParts_31 h5 (by omega) (by first | decide | omega) ?_
    rw [b2, hlv, eI_s]
    refine et_iasn d_R_seatParts_32 h14 (by omega) (by first | decide | omega) ?_
    refine et_iload d_R_seatParts_33 rfl ?_
    refine et_iconst (v := 1) d_R_seatParts_35 (by decide) ?_
    obtain ⟨rv, hrv⟩ : ∃ rv, gR g0 nn = rv + 1 := ⟨gR g0 nn - 1, by omega⟩
    have t3 := t2 ew
    have es := hsp p hp ep
    refine et_icmp_le (tgt := 59) d_R_seatParts_36 (by decide) (fun q => absurd q (by decide)) (fun _ => ?_)
    refine et_aload_n (i := 0) d_R_seatParts_39 rfl rfl ?_
    refine et_getf (ci := 2) 3 d_R_seatParts_40 h13 rfl in_R (by decide) fl_R_15 rfl ?_
    refine et_aload_n (i := 1) d_R_seatParts_43 rfl rfl ?_
    refine et_getf (ci := 3) 2 d_R_seatParts_44 ((va_ne (by omega)).trans u0) rfl in_U (by decide) fl_R_100 rfl ?_
    refine et_iload_n (i := 2) d_R_seatParts_47 rfl rfl ?_
    refine et_ialn d_R_seatParts_48 ((va_ne (by omega)).trans u1) (by omega) (by first | decide | omega) ?_
    rw [es]
    refine et_aload_n (i := 0) d_R_seatParts_49 rfl rfl ?_
    refine et_getf (ci := 2) 1 d_R_seatParts_50 h13 rfl in_R (by decide) fl_R_25 rfl ?_
    refine et_getf (ci := 1) 2 d_R_seatParts_53 h3 rfl in_G (by decide) fl_R_103 rfl ?_
    refine et_iload_n (i := 3) d_R_seatParts_56 rfl rfl ?_
    refine et_ialn d_R_seatParts_57 h6 (by omega) (by first | decide | omega) ?_
    rw [b3, hrv, eI_s]
    refine et_iasn d_R_seatParts_58 rfl (by omega) (by first | decide | omega) ?_
    refine et_vret d_R_seatParts_59 rfl (Nat.le_of_ble_eq_true rfl) (Nat.le_of_ble_eq_true rfl) ⟨rfl, rfl, fun q hq => by rw [va_ne hq, va_ne hq], ?_⟩
    rw [bx_uu, ew]
    refine same _ _ (fun q hq => ?_)
    show upd (upd sa (p + 1) (nI lv)) ((stN row e (e - (p + 1))).getD 1 e) (nI rv) q = nI (gUp (gUp se (p + 1) (gL g0 nn - 1)) ((stN row e (e - (p + 1))).getD 1 e) (gR g0 nn - 1) q)
    rw [hlv, hrv, Nat.add_sub_cancel, Nat.add_sub_cancel]
    by_cases eq : q = (stN row e (e - (p + 1))).getD 1 e
    · rw [eq, pk_us, gUp_s]
    · rw [pk_un eq, gUp_n _ _ eq]
      by_cases eq2 : q = p + 1
      · rw [eq2, pk_us, gUp_s]
      · rw [pk_un eq2, gUp_n _ _ eq2]; exact hsa q hq
set_option maxHeartbeats 4000000 in
set_option maxRecDepth 100000 in
theorem c_R_joinSides {sc : et_X} {h : Nat → et_MC} {d n : Nat} {g0 : gr} {y : gx} {ch : Bool} {se vt : Nat → Nat} {k e len : Nat} {row : Nat → Int32} (hk : 85 ≤ k) (I : rdI 40 g0 y) (hr : rOk row e len) (hU : et_RU k row e len h) (hR : et_RH y ch se vt h) (h0 : se 0 < gC g0) (hvt : ∀ j, e < j → j < len → et_isv (row j) → vt (row j - 97).toNatClampNeg < gC g0) : et_Cn sc Y_R_joinSides (d + 3) [.ref 13, .ref k] h n 0 0 (fun r h' n' => n' = n ∧ et_f14 h h' ∧ ((∃ s', doA 40 (se 0, sg row len (len - (e + 1)), vt) (y, ch) = some s' ∧ r = .inl (some (.int 1)) ∧ et_RH s'.1 s'.2 se vt h') ∨ (doA 40 (se 0, sg row len (len - (e + 1)), vt) (y, ch) = none ∧ r = .inl (some (.int 0)) ∧ ∃ x', gLe g0 x'.1 ∧ gOk 40 x'.1 ∧ et_RH x' ch se vt h'))) := by
  refine et_Cn.of 1 rfl rfl (by decide) mV_R_joinSides.1 ?_
  obtain ⟨hg, h10, ⟨va, h11, hva⟩, ⟨st, h12⟩, h13, sa, h14, hsa⟩ := hR
  obtain ⟨a4, a5, a6, a7, a8, a9, h3, h4, h5, h6, h7, h8, h9, hA, hN⟩ := id hg
  obtain ⟨u0, u3, ⟨sp, u1, hsp⟩, bd, u2, hbd⟩ := id hU
  obtain ⟨-, ⟨m2, hw⟩, r3, r4, r5, r6⟩ := id hr
  have o1 := I.1.1.1
  have o2 := I.1.1.2.1
  refine et_aload_n (i := 0) d_R_joinSides_0 rfl rfl ?_
  refine et_getf (ci := 2) 2 d_R_joinSides_1 h13 rfl in_R (by decide) fl_R_29 rfl ?_
  refine et_aload_n (i := 1) d_R_joinSides_4 rfl rfl ?_
  refine et_getf (ci := 3) 0 d_R_joinSides_5 u0 rfl in_U (by decide) fl_R_68 rfl ?_
  refine et_aload_n (i := 1) d_R_joinSides_8 rfl rfl ?_
  refine et_getf (ci := 3) 1 d_R_joinSides_9 u0 rfl in_U (by decide) fl_R_59 rfl ?_
  refine et_iconst (v := 1) d_R_joinSides_12 (by decide) ?_
  refine et_iadd d_R_joinSides_13 ?_
  rw [nI_1]
  refine et_aload_n (i := 1) d_R_joinSides_14 rfl rfl ?_
  refine et_getf (ci := 3) 0 d_R_joinSides_15 u0 rfl in_U (by decide) fl_R_68 rfl ?_
  refine et_alen (v := nI len) d_R_joinSides_18 u3 rfl ?_
  refine et_iconst (v := 1) d_R_joinSides_19 (by decide) ?_
  refine et_invV mV_K_classOf (As := [_, _, _, _]) rfl d_R_joinSides_20 lk_R_106 len_K_classOf h10 rfl (Nat.le_of_ble_eq_true rfl) (c_K_classOf (d := d) (kr := k + 3) (len := len) (row := row) (vs := vt) true (e + 1) len I.1.1 hg h10 h11 h12 u3 (Or.inr (by omega)) (Nat.le_refl _) (by omega) hw (fun i h1 hi z => ⟨hva _ (et_isv_in z).1, Nat.lt_of_lt_of_le (hvt i h1 hi z) I.2.1.2.1⟩)) (by omega) (Nat.le_of_ble_eq_true rfl) (Nat.le_of_ble_eq_true rfl) (fun v hb n' hp => ?_) (fun y h' n' hp => by rcases hp.2.2.2 with ⟨c, x', -, e, -⟩ | ⟨-, e, -⟩ <;> cases e)
  obtain ⟨hn2, fr1, ⟨st', s12⟩, hres⟩ := hp
  replace hn2 := hn2.symm
  subst hn2
  have b10 := (fr1 10 (by omega) (by omega)).trans h10
  have b11 := (fr1 11 (by omega) (by omega)).trans h11
  have b13 := (fr1 13 (by omega) (by omega)).trans h13
  have b14 := (fr1 14 (by omega) (by omega)).trans h14
  have hvs' : ∀ i, e + 1 ≤ i → i < len → et_isv (row i) → vt (row i - 97).toNatClampNeg < gC y.1 := fun i h1 h2 h3 => Nat.lt_of_lt_of_le (hvt i h1 h2 h3) I.2.1.2.1
  rcases hres with ⟨b, x1, ev, hv, ok1, hb1, le1, g1⟩ | ⟨ev, hv, x1, -, ok1, le1, g1⟩
  rotate_left
  · cases hv
    refine et_istore_n (i := 2) (lv' := [_, _, _]) d_R_joinSides_23 rfl (by decide) rfl rfl ?_
    refine et_iload_n (i := 2) d_R_joinSides_24 rfl rfl ?_
    refine et_iconst (v := (-1)) d_R_joinSides_25 (by decide) ?_
    refine et_icmp_ne (tgt := 31) d_R_joinSides_26 (by decide) (fun q => absurd rfl q) (fun _ => ?_)
    refine et_iconst (v := 0) d_R_joinSides_29 (by decide) ?_
    exact et_zret d_R_joinSides_30 rfl rfl (Nat.le_of_ble_eq_true rfl) (Nat.le_of_ble_eq_true rfl) ⟨rfl, fun q hq => fr1 q (by omega) (by omega), Or.inr ⟨by simp only [doA]; rw [ev], rfl, x1, I.2.1.trans le1, ok1, g1, b10, ⟨va, b11, hva⟩, ⟨st', s12⟩, b13, sa, b14, hsa⟩⟩
  cases hv
  obtain ⟨c4, c5, c6, c7, c8, c9, k3, -⟩ := id g1
  have nm := gEval_nm hw hvs' (fun n hn => (I.1.1.2.2 n hn).1) (Nat.le_refl _) ev
  have nok : nOk x1 := fun c hc => by
    by_cases hc2 : c < gC y.1
    · rw [(nm c).1 hc2]; exact Nat.lt_of_lt_of_le (I.2.2.1 c hc2) le1.2.1
    · rw [(nm c).2 (by omega) hc]; exact hc
  have hs0 : se 0 < gC x1.1 := Nat.lt_of_lt_of_le h0 (Nat.le_trans I.2.1.2.1 le1.2.1)
  have d1 : doA 40 (se 0, sg row len (len - (e + 1)), vt) (y, ch) = some (gJoin x1 (se 0) b, ch || decide (x1.2 (se 0) ≠ x1.2 b)) := by simp only [doA]; rw [ev]
  have ok1' := ok1.1
  have ok2' := ok1.2.1
  refine et_istore_n (i := 2) (lv' := [_, _, _]) d_R_joinSides_23 rfl (by decide) rfl rfl ?_
  refine et_iload_n (i := 2) d_R_joinSides_24 rfl rfl ?_
  refine et_iconst (v := (-1)) d_R_joinSides_25 (by decide) ?_
  refine et_icmp_ne (tgt := 31) d_R_joinSides_26 (by decide) (fun _ => ?_) (fun q => absurd q (eI_ns (by omega)))
  refine et_aload_n (i := 0) d_R_joinSides_31 rfl rfl ?_
  refine et_getf (ci := 2) 1 d_R_joinSides_32 b13 rfl in_R (by decide) fl_R_25 rfl ?_
  refine et_aload_n (i := 0) d_R_joinSides_35 rfl rfl ?_
  refine et_getf (ci := 2) 3 d_R_joinSides_36 b13 rfl in_R (by decide) fl_R_15 rfl ?_
  refine et_iconst (v := 0) d_R_joinSides_39 (by decide) ?_
  refine et_ialn d_R_joinSides_40 b14 (show 0 < 7 by decide) (by first | decide | omega) ?_
  rw [hsa 0 (by decide)]
  refine et_iload_n (i := 2) d_R_joinSides_41 rfl rfl ?_
  refine et_invV mV_G_join (As := [_, _]) rfl d_R_joinSides_42 lk_R_110 len_G_join k3 rfl (Nat.le_of_ble_eq_true rfl) (c_G_join (d := d) (se 0) b (by omega) nok hs0 hb1 g1) (by omega) (Nat.le_of_ble_eq_true rfl) (Nat.le_of_ble_eq_true rfl) (fun v hd n' hp => ?_) (fun x h' n' hp => by rcases hp.2.2.2 with ⟨-, e⟩ | ⟨-, e⟩ <;> cases e)
  obtain ⟨hn2, fr2, g2, hres⟩ := hp
  replace hn2 := hn2.symm
  subst hn2
  have e10 := (fr2 10 (by omega)).trans b10
  have e11 := (fr2 11 (by omega)).trans b11
  have e12 := (fr2 12 (by omega)).trans s12
  have e13 := (fr2 13 (by omega)).trans b13
  have e14 := (fr2 14 (by omega)).trans b14
  rcases hres with ⟨q, hv⟩ | ⟨q, hv⟩
  · cases hv
    refine et_if_eq (tgt := 53) d_R_joinSides_45 (by decide) (fun _ => ?_) (fun q => absurd (by decide) q)
    refine et_iconst (v := 1) d_R_joinSides_53 (by decide) ?_
    exact et_zret d_R_joinSides_54 rfl rfl (Nat.le_of_ble_eq_true rfl) (Nat.le_of_ble_eq_true rfl) ⟨rfl, fun q hq => by rw [fr2 q (by omega), fr1 q (by omega) (by omega)], Or.inl ⟨_, d1, rfl, g2, e10, ⟨va, e11, hva⟩, ⟨st', e12⟩, by simp only [q, ne_eq, not_true_eq_false, decide_false, Bool.or_false]; exact e13, sa, e14, hsa⟩⟩
  · cases hv
    refine et_if_eq (tgt := 53) d_R_joinSides_45 (by decide) (fun q => absurd q (by decide)) (fun _ => ?_)
    refine et_aload_n (i := 0) d_R_joinSides_48 rfl rfl ?_
    refine et_iconst (v := 1) d_R_joinSides_49 (by decide) ?_
    refine et_putf (ci := 2) 0 d_R_joinSides_50 e13 rfl in_R ty_R nm_R (by decide) fl_R_9 rfl rfl (fun _ => rfl) (fun _ => rfl) (Nat.le_of_ble_eq_true rfl) (fs' := [_, _, _, _, _, _]) rfl ?_
    refine et_iconst (v := 1) d_R_joinSides_53 (by decide) ?_
    exact et_zret d_R_joinSides_54 rfl rfl (Nat.le_of_ble_eq_true rfl) (Nat.le_of_ble_eq_true rfl) ⟨rfl, fun q hq => by rw [va_ne (by omega), fr2 q (by omega), fr1 q (by omega) (by omega)], Or.inl ⟨_, d1, rfl, g2.same (fun q e1 e2 => va_ne (by omega)), e10, ⟨va, e11, hva⟩, ⟨st', e12⟩, by simp only [q, ne_eq, not_false_eq_true, decide_true, Bool.or_true]; rfl, sa, e14, hsa⟩⟩
