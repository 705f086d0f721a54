/-! ===== rule() ===== -/
theorem prI_lt {f : Nat → Int32} {mid i : Nat} (h : prI f mid i ≠ -1) : i - mid < 7 ∧ (mid ≠ 0 → et_isv (f i) → inF f (f i) (mid - 1) = true) := by
  unfold prI at h
  by_cases e : 7 ≤ i - mid
  · rw [if_pos e] at h; exact absurd rfl h
  · rw [if_neg e] at h
    refine ⟨by omega, fun h1 h2 => ?_⟩
    cases hi : inF f (f i) (mid - 1) with
    | true => rfl
    | false => rw [if_pos ⟨h1, h2, hi⟩] at h; exact absurd rfl h
theorem rOk_of {f : Nat → Int32} {sz : Nat} (h : (fwN f true true sz 0 1 0).1 = 0) : ∃ e, (fwN f true true sz 0 1 0).2 = e + 1 ∧ rOk f e sz := by
  obtain ⟨e, h1, h2, h3, ⟨m1, h4⟩, ⟨m2, h5⟩, h6, h7⟩ := fw_eq h
  have p1 : ∀ j, j < e → prI f 0 j ≠ -1 := fun j hj => by have := h6 j hj; rw [ptI, if_pos rfl] at this; exact this
  have p2 : ∀ j, e < j → j < sz → prI f (e + 1) j ≠ -1 := fun j hj hj2 => by have := h7 j hj hj2; rw [ptI, if_pos rfl] at this; exact this
  refine ⟨e, h2, ⟨m1, h4⟩, ⟨m2, h5⟩, ?_, ?_, h1, fun j hj1 hj2 hv => ?_⟩
  · have := h4.1
    have := (prI_lt (p1 (e - 1) (by omega))).1
    omega
  · have := h5.1
    have := (prI_lt (p2 (sz - 1) (by omega) (by omega))).1
    omega
  · have := (prI_lt (p2 j hj1 hj2)).2 (by omega) hv
    rw [Nat.add_sub_cancel] at this
    exact this
theorem inF_same {f g : Nat → Int32} {s : Int32} {k : Nat} (h : ∀ i, i < k → f i = g i) : inF f s k = inF g s k := by
  induction k with
  | zero => rfl
  | succ k ih => rw [inF, inF, ih (fun i hi => h i (by omega)), h k (by omega)]
theorem wf_same {m : Nat → Nat} {f g : Nat → Int32} {a b : Nat} (h : ∀ i, i < b → f i = g i) (hw : wf m g a b) : wf m f a b := ⟨hw.1, hw.2.1, hw.2.2.1, fun i h1 h2 => by rw [h i h2]; exact hw.2.2.2 i h1 h2⟩
theorem rOk_same {f g : Nat → Int32} {e len : Nat} (h : ∀ i, i < len → f i = g i) (hr : rOk g e len) : rOk f e len := by
  obtain ⟨⟨m1, h1⟩, ⟨m2, h2⟩, h3, h4, h5, h6⟩ := hr
  refine ⟨⟨m1, wf_same (fun i hi => h i (by omega)) h1⟩, ⟨m2, wf_same h h2⟩, h3, h4, h5, fun j hj1 hj2 hv => ?_⟩
  rw [h j hj2] at hv ⊢
  rw [inF_same (g := g) (fun i hi => h i (by omega))]
  exact h6 j hj1 hj2 hv
set_option maxHeartbeats 4000000 in
set_option maxRecDepth 100000 in
theorem c_E_rule {sc : et_X} {h : Nat → et_MC} {d n : Nat} {f : Nat → Int32} {sz : Nat} {wp : Int32} {x : gx} (hn : 85 ≤ n) (hsz : sz ≤ 60) (hc : et_EC f sz wp x h) (rc : Nat) (hrc : rc ≤ 6) {rr : Nat → Option Nat} (f0 : h 0 = .inr (6, [.ref 1, .ref 3, .ref 10, .ref 13, .ref 17, .ref 63, .int (nI rc)])) (h63 : h 63 = .inl (3, 6, .inr (.inr (.inr (.inr rr))))) : et_Cn sc Y_E_rule (d + 5) [.ref 0] h n 4 78 (fun r h' n' => ((fwN f true true sz 0 1 0).1 ≠ 0 ∧ r = .inr 0 ∧ n' = n + 1 ∧ et_fr n h h' ∧ et_EC f sz (eI (fwN f true true sz 0 1 0).1) x h') ∨ ((fwN f true true sz 0 1 0).1 = 0 ∧ 6 ≤ rc ∧ r = .inr 1 ∧ n' = n + 1 ∧ et_fr n h h' ∧ et_EC f sz wp x h') ∨ ((fwN f true true sz 0 1 0).1 = 0 ∧ rc < 6 ∧ r = .inl (some (.int (nI (rc + 1)))) ∧ n' = n + 4 ∧ (∀ k, k = 11 ∨ 12 < k → k < n → k ≠ 63 → h' k = h k) ∧ h' 0 = .inr (6, [.ref 1, .ref 3, .ref 10, .ref 13, .ref 17, .ref 63, .int (nI (rc + 1))]) ∧ h' 63 = .inl (3, 6, .inr (.inr (.inr (.inr (va_up rr rc (some n)))))) ∧ et_EC f 0 wp x h' ∧ ∃ e row, (fwN f true true sz 0 1 0).2 = e + 1 ∧ rOk f e sz ∧ (∀ i, i < sz → row i = f i) ∧ et_RU n row e sz h')) := by
  refine et_Cn.of 0 rfl rfl (by decide) mV_E_rule.1 ?_
  obtain ⟨-, ⟨md, h1⟩, h2, hg, h10, ⟨va, h11⟩, st, h12⟩ := hc
  refine et_aload_n (i := 0) d_E_rule_0 rfl rfl ?_
  refine et_getf (ci := 6) 0 d_E_rule_1 f0 rfl in_E (by decide) fl_E_10 rfl ?_
  refine et_invV mV_T_isRule (As := []) rfl d_E_rule_4 lk_E_75 len_T_isRule h1 rfl (Nat.le_of_ble_eq_true rfl) (c_T_isRule (d := d) hsz h1 h2) (Nat.le_refl _) (Nat.le_of_ble_eq_true rfl) (Nat.le_of_ble_eq_true rfl) (fun v h' n' hp => ?_) (fun x h' n' hp => by rcases hp with ⟨-, e, -⟩ | ⟨-, e, -⟩ <;> cases e)
  rcases hp with ⟨eq0, hv, hn2, hh2⟩ | ⟨eq0, hv, hn2, hh2⟩
  rotate_left
  · cases hv
    subst hh2
    replace hn2 := hn2.symm
    subst hn2
    refine et_if_ne (tgt := 20) d_E_rule_7 (by decide) (fun q => absurd (by decide) q) (fun _ => ?_)
    exact et_throw (x := 0) "the text is no rule" d_E_rule_10 d_E_rule_13 d_E_rule_14 d_E_rule_16 d_E_rule_19 (by decide +kernel) cl_E_79 ini_IllegalArgumentException ins_IllegalArgumentException thr_0 (by decide +kernel) rfl (Nat.le_of_ble_eq_true rfl) (Nat.le_of_ble_eq_true rfl) (Nat.le_of_ble_eq_true rfl) (Or.inl ⟨eq0, rfl, rfl, fun k e1 e2' => by simp [va_up, show k ≠ 1 by omega, e2'], ⟨⟨_, by simp [va_up, show (0 : Nat) ≠ n by omega]; exact f0⟩, ⟨_, by simp only [va_up, if_neg (show (1 : Nat) ≠ n by omega)]; rfl⟩, by simp [va_up, show (2 : Nat) ≠ n by omega]; exact h2, hg.same (fun k e1 e2 => by simp [va_up, show k ≠ 1 by omega, show k ≠ n by omega]), by simp [va_up, show (10 : Nat) ≠ n by omega]; exact h10, ⟨va, by simp [va_up, show (11 : Nat) ≠ n by omega]; exact h11⟩, st, by simp [va_up, show (12 : Nat) ≠ n by omega]; exact h12⟩⟩)
  cases hv
  subst hh2
  replace hn2 := hn2.symm
  subst hn2
  obtain ⟨e, hq2, hr⟩ := rOk_of eq0
  have hmid : eI (fwN f true true sz 0 1 0).2 = nI e := by rw [hq2, eI_s]
  rw [hmid]
  refine et_if_ne (tgt := 20) d_E_rule_7 (by decide) (fun _ => ?_) (fun q => absurd q (by decide))
  refine et_aload_n (i := 0) d_E_rule_20 rfl rfl ?_
  refine et_getf (ci := 6) 6 d_E_rule_21 f0 rfl in_E (by decide) fl_E_54 rfl ?_
  refine et_bipush (v := 6) d_E_rule_24 (by decide) ?_
  refine et_icmp_lt (tgt := 39) d_E_rule_26 (by decide) (fun q => ?_) (fun q => ?_)
  rotate_left
  · have q2 : 6 ≤ rc := Nat.not_lt.mp fun z => q (nI_lt (b := 6) z (by decide))
    exact et_throw (x := 1) "there are six rules" d_E_rule_29 d_E_rule_32 d_E_rule_33 d_E_rule_35 d_E_rule_38 (by decide +kernel) cl_E_86 ini_IllegalStateException ins_IllegalStateException thr_1 (by decide +kernel) rfl (Nat.le_of_ble_eq_true rfl) (Nat.le_of_ble_eq_true rfl) (Nat.le_of_ble_eq_true rfl) (Or.inr (Or.inl ⟨eq0, q2, rfl, rfl, fun k e1 e2' => by simp [va_up, show k ≠ 1 by omega, e2'], ⟨⟨_, by simp [va_up, show (0 : Nat) ≠ n by omega]; exact f0⟩, ⟨_, by simp only [va_up, if_neg (show (1 : Nat) ≠ n by omega)]; rfl⟩, by simp [va_up, show (2 : Nat) ≠ n by omega]; exact h2, hg.same (fun k e1 e2 => by simp [va_up, show k ≠ 1 by omega, show k ≠ n by omega]), by simp [va_up, show (10 : Nat) ≠ n by omega]; exact h10, ⟨va, by simp [va_up, show (11 : Nat) ≠ n by omega]; exact h11⟩, st, by simp [va_up, show (12 : Nat) ≠ n by omega]; exact h12⟩⟩))
  have q2 : rc < 6 := (nI_ltI (by omega) (by decide)).mp (show nI rc < nI 6 from q)
  refine et_aload_n (i := 0) d_E_rule_39 rfl rfl ?_
  refine et_getf (ci := 6) 5 d_E_rule_40 f0 rfl in_E (by decide) fl_E_50 rfl ?_
  refine et_aload_n (i := 0) d_E_rule_43 rfl rfl ?_
  refine et_getf (ci := 6) 6 d_E_rule_44 f0 rfl in_E (by decide) fl_E_54 rfl ?_
  refine et_new (ci := 3) (fs := [.null, .int 0, .null, .null]) (ty0 := ft_U) d_E_rule_47 rfl in_U ty_U cl_E_48 ins_U ini_U (fun B j hj => by rcases (show j = 0 ∨ j = 1 ∨ j = 2 ∨ j = 3 by omega) with rfl | rfl | rfl | rfl <;> rfl) (Nat.le_of_ble_eq_true rfl) (Nat.le_of_ble_eq_true rfl) ?_
  refine et_dup d_E_rule_50 rfl ?_
  refine et_aload_n (i := 0) d_E_rule_51 rfl rfl ?_
  refine et_getf (ci := 6) 0 d_E_rule_52 ((va_ne (by omega)).trans f0) rfl in_E (by decide) fl_E_10 rfl ?_
  refine et_invI mI_U_init (As := [_]) rfl d_E_rule_55 lk_E_91 len_U_init (Nat.le_of_ble_eq_true rfl) (c_U_init (d := d) (k := n) (f := f) (wp := wp) (e := e) (sz := sz) rfl hn va_eq ((va_ne (by omega)).trans va_eq) ((va_ne (by omega)).trans h2) hr) (by omega) (Nat.le_of_ble_eq_true rfl) (Nat.le_of_ble_eq_true rfl) (fun v hb n' hp => ?_) (fun x h' n' hp => by cases hp.1)
  obtain ⟨hv, hn2, fr, row, hrow, hRU⟩ := hp
  cases hv
  replace hn2 := hn2.symm
  subst hn2
  have hb0 : hb 0 = .inr (6, [.ref 1, .ref 3, .ref 10, .ref 13, .ref 17, .ref 63, .int (nI rc)]) := by rw [fr 0 (by omega) (by omega), va_ne (by omega)]; exact f0
  have hb1 : hb 1 = .inr (4, [.ref 2, .int (nI sz), .int (nI e), .int wp]) := by rw [fr 1 (by omega) (by omega), va_ne (by omega)]; exact va_eq
  have hbk : ∀ k, 1 < k → k < n → hb k = h k := fun k k1 k2 => by rw [fr k (by omega) (by omega), va_ne (by omega), va_ne (by omega)]
  refine et_ast3 d_E_rule_58 ((hbk 63 (by omega) (by omega)).trans h63) (vp_in_nI (show rc < 6 by omega) (by decide)) hRU.1 rfl ?_
  rw [nI_clamp (by omega)]
  refine et_aload_n (i := 0) d_E_rule_59 rfl rfl ?_
  refine et_dup d_E_rule_60 rfl ?_
  refine et_getf (ci := 6) 6 d_E_rule_61 ((va_ne (by omega)).trans hb0) rfl in_E (by decide) fl_E_54 rfl ?_
  refine et_iconst (v := 1) d_E_rule_64 (by decide) ?_
  refine et_iadd d_E_rule_65 ?_
  refine et_putf (ci := 6) 6 d_E_rule_66 ((va_ne (by omega)).trans hb0) rfl in_E ty_E nm_E (by decide) fl_E_54 rfl rfl (fun _ => rfl) (fun _ => rfl) (Nat.le_of_ble_eq_true rfl) (fs' := [_, _, _, _, _, _, _]) rfl ?_
  refine et_aload_n (i := 0) d_E_rule_69 rfl rfl ?_
  refine et_getf (ci := 6) 0 d_E_rule_70 rfl rfl in_E (by decide) fl_E_10 rfl ?_
  rw [nI_1]
  refine et_invV mV_T_clear (As := []) rfl d_E_rule_73 lk_E_65 len_T_clear ((va_ne (by omega)).trans ((va_ne (by omega)).trans hb1)) rfl (Nat.le_of_ble_eq_true rfl) (c_T_clear (d := d) ((va_ne (by omega)).trans ((va_ne (by omega)).trans hb1))) (by omega) (Nat.le_of_ble_eq_true rfl) (Nat.le_of_ble_eq_true rfl) (fun v h' n' hp => ?_) (fun x h' n' hp => by cases hp.1)
  obtain ⟨hv, hn2, hh2⟩ := hp
  cases hv
  subst hh2
  replace hn2 := hn2.symm
  subst hn2
  refine et_aload_n (i := 0) d_E_rule_76 rfl rfl ?_
  refine et_getf (ci := 6) 6 d_E_rule_77 ((va_ne (by omega)).trans va_eq) rfl in_E (by decide) fl_E_54 rfl ?_
  refine et_iret d_E_rule_80 rfl (Nat.le_of_ble_eq_true rfl) (Nat.le_of_ble_eq_true rfl) (Or.inr (Or.inr ⟨eq0, q2, rfl, rfl, fun k k1 k2 k3 => ?_, ?_, ?_, ⟨⟨nI (rc + 1), ?_⟩, ⟨_, va_eq⟩, ?_, ?_, ?_, ⟨va, ?_⟩, st, ?_⟩, e, row, hq2, hr, hrow, ?_⟩))
  · rw [va_ne (by omega), va_ne (by omega), va_ne (by omega)]; exact hbk k (by omega) k2
  · rw [va_ne (by omega)]; exact va_eq
  · rw [va_ne (by omega), va_ne (by omega)]; exact va_eq
  · rw [va_ne (by omega)]; exact va_eq
  · rw [va_ne (by omega), va_ne (by omega), va_ne (by omega)]; exact (hbk 2 (by omega) (by omega)).trans h2
  · exact hg.same (fun k e1 e2 => by rw [va_ne (by omega), va_ne (by omega), va_ne (by omega)]; exact hbk k (by omega) (by omega))
  · rw [va_ne (by omega), va_ne (by omega), va_ne (by omega)]; exact (hbk 10 (by omega) (by omega)).trans h10
  · rw [va_ne (by omega), va_ne (by omega), va_ne (by omega)]; exact (hbk 11 (by omega) (by omega)).trans h11
  · rw [va_ne (by omega), va_ne (by omega), va_ne (by omega)]; exact (hbk 12 (by omega) (by omega)).trans h12
  · obtain ⟨z1, z2, ⟨sp, z3, z4⟩, bd, z5, z6⟩ := hRU
    have zz : ∀ k, n ≤ k → va_up (va_up (va_up hb 63 (.inl (3, 6, .inr (.inr (.inr (.inr (va_up rr rc (some n)))))))) 0 (.inr (6, [.ref 1, .ref 3, .ref 10, .ref 13, .ref 17, .ref 63, .int (nI (rc + 1))]))) 1 (.inr (4, [.ref 2, .int 0, .int (nI e), .int wp])) k = hb k := fun k hk => by rw [va_ne (by omega), va_ne (by omega), va_ne (by omega)]
    exact ⟨(zz _ (by omega)).trans z1, (zz _ (by omega)).trans z2, ⟨sp, (zz _ (by omega)).trans z3, z4⟩, bd, (zz _ (by omega)).trans z5, z6⟩
