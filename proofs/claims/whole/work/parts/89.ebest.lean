/-! ===== cost and best ===== -/
def et_CC (p18 : Nat → Int32) (h : Nat → et_MC) : Prop := h 17 = .inr (0, [.ref 18, .ref 19, .ref 20, .ref 21, .ref 3, .ref 62]) ∧ h 18 = .inl (0, 127, .inl p18) ∧ (∃ f, h 19 = .inl (1, 40, .inr (.inl f))) ∧ (∃ f, h 20 = .inl (1, 40, .inr (.inl f))) ∧ (∃ tt, et_TM tt h) ∧ ∃ tr, h 62 = .inl (0, 60, .inl tr)
theorem et_CC.same {p18 : Nat → Int32} {h h' : Nat → et_MC} (H : et_CC p18 h) (e : ∀ k, 17 ≤ k → k ≤ 62 → h' k = h k) : et_CC p18 h' := by
  obtain ⟨h1, h2, ⟨f3, h3⟩, ⟨f4, h4⟩, ⟨tt, ⟨tf, h5, h6⟩, h7⟩, tr, h8⟩ := H
  exact ⟨(e 17 (by decide) (by decide)).trans h1, (e 18 (by decide) (by decide)).trans h2, ⟨f3, (e 19 (by decide) (by decide)).trans h3⟩, ⟨f4, (e 20 (by decide) (by decide)).trans h4⟩, ⟨tt, ⟨tf, (e 21 (by decide) (by decide)).trans h5, h6⟩, fun i hi => (e _ (by omega) (by omega)).trans (h7 i hi)⟩, tr, (e 62 (by decide) (by decide)).trans h8⟩
/-- what cost answers -/
def cvL (v : Nat → tri) (lk : Nat) : Int64 := if lk = 0 then -1 else if kM < (v (lk - 1)).1 then -3 else lN (v (lk - 1)).1
set_option maxHeartbeats 4000000 in
set_option maxRecDepth 100000 in
theorem c_T_become {sc : et_X} {h : Nat → et_MC} {d n : Nat} {sz md wp : Int32} {f t : Nat → Int32} (kr len : Nat) (hlen : len ≤ 60) (hkr : kr ≠ 1) (h1 : h 1 = .inr (4, [.ref 2, .int sz, .int md, .int wp])) (h2 : h 2 = .inl (0, 60, .inl f)) (ht : h kr = .inl (0, 60, .inl t)) : et_Cn sc Y_T_become d [.ref 1, .ref kr, .int (nI len)] h n 0 0 (fun r h' n' => r = .inl none ∧ n' = n ∧ (∀ q, q ≠ 1 → q ≠ 2 → h' q = h q) ∧ h' 1 = .inr (4, [.ref 2, .int (nI len), .int md, .int wp]) ∧ ∃ f', h' 2 = .inl (0, 60, .inl f') ∧ ∀ j, j < len → f' j = t j) := by
  refine et_Cn.of 0 rfl rfl (by decide) mV_T_become.1 ?_
  refine et_aload_n (i := 1) d_T_become_0 rfl rfl ?_
  refine et_iconst (v := 0) d_T_become_1 (by decide) ?_
  refine et_aload_n (i := 0) d_T_become_2 rfl rfl ?_
  refine et_getf (ci := 4) 0 d_T_become_3 h1 rfl in_T (by decide) fl_T_9 rfl ?_
  refine et_iconst (v := 0) d_T_become_6 (by decide) ?_
  refine et_iload_n (i := 2) d_T_become_7 rfl rfl ?_
  refine et_copy (k0 := kr) (k1 := 2) (n0 := 60) (n1 := 60) d_T_become_8 ml_T_31 sy_nat sy_stat ini_System ht h2 (by decide) (by decide) (nI_pos (by omega)) (by rw [nI_clamp (by omega)]; show 0 + len ≤ 60; omega) (by rw [nI_clamp (by omega)]; show 0 + len ≤ 60; omega) (Nat.le_of_ble_eq_true rfl) ?_
  refine et_aload_n (i := 0) d_T_become_11 rfl rfl ?_
  refine et_iload_n (i := 2) d_T_become_12 rfl rfl ?_
  refine et_putf (ci := 4) 1 d_T_become_13 ((va_ne (by decide)).trans h1) rfl in_T ty_T nm_T (by decide) fl_T_15 rfl rfl (fun _ => rfl) (fun _ => rfl) (Nat.le_of_ble_eq_true rfl) (fs' := [_, _, _, _]) rfl ?_
  refine et_vret d_T_become_16 rfl (Nat.le_refl _) (Nat.le_refl _) ⟨rfl, rfl, fun q q1 q2 => (va_ne q1).trans (va_ne q2), va_eq, _, (va_ne (by decide)).trans va_eq, fun j hj => ?_⟩
  rw [nI_clamp (by omega)]
  show va_cpy t f 0 0 len j = t j
  rw [pk_cpy_in (Nat.zero_le _) (by omega), Nat.sub_zero, Nat.zero_add]
set_option maxHeartbeats 4000000 in
set_option maxRecDepth 100000 in
theorem c_E_cost {sc : et_X} {h : Nat → et_MC} {d n : Nat} {f : Nat → Int32} {sz : Nat} {wp : Int32} {g : gr} {p18 : Nat → Int32} {pr : Int32 → Nat} {v : Nat → tri} (hn : 85 ≤ n) (hsz : sz ≤ 60) (hok : gG 40 g) (hc : et_EC f sz wp (gI g) h) (hC : et_CC p18 h) (hp : prOk p18 pr) (hv : bst g pr v) (hvo : ∀ c, c < gC g → tOk (v c)) : et_Cn sc Y_E_cost (d + 7) [.ref 0] h n 1 6 (fun r h' n' => (∀ k, (k = 0 ∨ k = 11 ∨ (12 < k ∧ k < 18) ∨ 62 < k) → k ≠ n → h' k = h k) ∧ (((fwN f false false sz 0 1 0).1 ≠ 0 ∧ r = .inr 0 ∧ n' = n + 1 ∧ et_EC f sz (eI (fwN f false false sz 0 1 0).1) (gI g) h' ∧ et_CC p18 h') ∨ ((fwN f false false sz 0 1 0).1 = 0 ∧ r = .inl (some (.long (cvL v (gLook (gI g) (sg f sz sz))))) ∧ n' = n ∧ et_EC f 0 wp (gI g) h' ∧ et_CC p18 h'))) := by
  refine et_Cn.of 1 rfl rfl (by decide) mV_E_cost.1 ?_
  obtain ⟨rc, f0⟩ := hc.1
  refine et_aload_n (i := 0) d_E_cost_0 rfl rfl ?_
  refine et_invV mV_E_takeTerm (As := []) rfl d_E_cost_1 lk_E_152 len_E_takeTerm f0 rfl (Nat.le_of_ble_eq_true rfl) (c_E_takeTerm (d := d) hn hsz hok hc) (by omega) (Nat.le_of_ble_eq_true rfl) (Nat.le_of_ble_eq_true rfl) (fun v ha n' hp => ?_) (fun y h' n' hp => ⟨rfl, fun k a b => hp.1 k (by omega) b, by rcases hp.2 with ⟨e1, e2, e3, e4⟩ | ⟨-, e, -⟩; exact Or.inl ⟨e1, e2, e3, e4, hC.same (fun k a b => hp.1 k (by omega) (by omega))⟩; cases e⟩)
  obtain ⟨fr, hp2⟩ := hp
  rcases hp2 with ⟨-, e, -⟩ | ⟨eq0, hv1, hle, hn2, hc2⟩
  · cases e
  cases hv1
  replace hn2 := hn2.symm
  subst hn2
  obtain ⟨⟨rc2, g0⟩, ⟨md, g1⟩, g2, g3, g10, g11, g12⟩ := id hc2
  have hC2 : et_CC p18 ha := hC.same (fun k a b => fr k (by omega) (by omega))
  obtain ⟨k17, k18, ⟨f19, k19⟩, ⟨f20, k20⟩, ⟨tt, kT⟩, tr, k62⟩ := id hC2
  have ok1 := hok.1.1
  have ok2 := hok.1.2.1
  have hkM : kM = 4611686018427387904 := rfl
  have hle : gLook (gI g) (sg f sz sz) ≤ gC g := hle
  refine et_istore_n (i := 1) (lv' := [_, _]) d_E_cost_4 rfl (by decide) rfl rfl ?_
  refine et_iload_n (i := 1) d_E_cost_5 rfl rfl ?_
  refine et_iconst (v := (-1)) d_E_cost_6 (by decide) ?_
  cases hlk : gLook (gI g) (sg f sz sz) with
  | zero =>
    rw [eI_0]
    refine et_icmp_ne (tgt := 14) d_E_cost_7 (by decide) (fun q => absurd rfl q) (fun _ => ?_)
    refine et_ldc2 d_E_cost_10 kl_E_159 ?_
    exact et_lret d_E_cost_13 rfl (Nat.le_of_ble_eq_true rfl) (Nat.le_of_ble_eq_true rfl) ⟨fun k a b => fr k (by omega) b, Or.inr ⟨eq0, by rw [cvL, if_pos rfl], rfl, hc2, hC2⟩⟩
  | succ c =>
    rw [hlk] at hle
    have vb := (hvo c hle).1
    rw [eI_s]
    refine et_icmp_ne (tgt := 14) d_E_cost_7 (by decide) (fun _ => ?_) (fun q => absurd q (eI_ns (by omega)))
    refine et_aload_n (i := 0) d_E_cost_14 rfl rfl ?_
    refine et_getf (ci := 6) 4 d_E_cost_15 g0 rfl in_E (by decide) fl_E_44 rfl ?_
    refine et_invV mV_C_weigh (As := []) rfl d_E_cost_18 lk_E_161 len_C_weigh k17 rfl (Nat.le_of_ble_eq_true rfl) (c_C_weigh (d := d) (x := gI g) hok.1 hok.2.2.2 g3 k17 k18 k19 k20 hp hv) (by omega) (Nat.le_of_ble_eq_true rfl) (Nat.le_of_ble_eq_true rfl) (fun v hb n' hp => ?_) (fun x h' n' hp => by cases hp.1)
    obtain ⟨hv1, hn2, fr2, hCH⟩ := hp
    cases hv1
    replace hn2 := hn2.symm
    subst hn2
    obtain ⟨l17, l18, c19, c20, l19, l20, hcl⟩ := id hCH
    have b0 := (fr2 0 (by decide) (by decide)).trans g0
    have hcb : et_EC f 0 wp (gI g) hb := ⟨⟨_, b0⟩, ⟨md, (fr2 1 (by decide) (by decide)).trans g1⟩, (fr2 2 (by decide) (by decide)).trans g2, g3.same (fun k a b => fr2 k (by omega) (by omega)), (fr2 10 (by decide) (by decide)).trans g10, by obtain ⟨va, z⟩ := g11; exact ⟨va, (fr2 11 (by decide) (by decide)).trans z⟩, by obtain ⟨va, z⟩ := g12; exact ⟨va, (fr2 12 (by decide) (by decide)).trans z⟩⟩
    obtain ⟨⟨tf, t1, t2⟩, t3⟩ := id kT
    have kT2 : et_TM tt hb := ⟨⟨tf, (fr2 21 (by decide) (by decide)).trans t1, t2⟩, fun i hi => (fr2 _ (by omega) (by omega)).trans (t3 i hi)⟩
    have l62 := (fr2 62 (by decide) (by decide)).trans k62
    have hCb : et_CC p18 hb := ⟨l17, l18, ⟨_, l19⟩, ⟨_, l20⟩, ⟨tt, kT2⟩, _, l62⟩
    have frb : ∀ k, (k = 0 ∨ k = 11 ∨ (12 < k ∧ k < 18) ∨ 62 < k) → k ≠ n → hb k = h k := fun k a b => (fr2 k (by omega) (by omega)).trans (fr k (by omega) b)
    refine et_aload_n (i := 0) d_E_cost_21 rfl rfl ?_
    refine et_getf (ci := 6) 4 d_E_cost_22 b0 rfl in_E (by decide) fl_E_44 rfl ?_
    refine et_getf (ci := 0) 1 d_E_cost_25 l17 rfl in_C (by decide) fl_E_164 rfl ?_
    refine et_iload_n (i := 1) d_E_cost_28 rfl rfl ?_
    refine et_laln d_E_cost_29 l19 (by omega) (by first | decide | omega) ?_
    rw [(hcl c hle).1]
    refine et_ldc2 d_E_cost_30 kl_E_168 ?_
    rw [lN_kM]
    refine et_lcmp d_E_cost_33 ?_
    refine et_if_le (tgt := 43) d_E_cost_34 (by decide) (fun q => ?_) (fun q => ?_)
    · have q2 : (v c).1 ≤ kM := (pk_lLE (by show (v c).1 < _; omega) (by omega)).mp ((lg_cmp_le _ _).mp q)
      refine et_aload_n (i := 0) d_E_cost_43 rfl rfl ?_
      refine et_getf (ci := 6) 4 d_E_cost_44 b0 rfl in_E (by decide) fl_E_44 rfl ?_
      refine et_getf (ci := 0) 1 d_E_cost_47 l17 rfl in_C (by decide) fl_E_164 rfl ?_
      refine et_iload_n (i := 1) d_E_cost_50 rfl rfl ?_
      refine et_laln d_E_cost_51 l19 (by omega) (by first | decide | omega) ?_
      rw [(hcl c hle).1]
      exact et_lret d_E_cost_52 rfl (Nat.le_of_ble_eq_true rfl) (Nat.le_of_ble_eq_true rfl) ⟨frb, Or.inr ⟨eq0, by rw [cvL, if_neg (Nat.succ_ne_zero _), Nat.add_sub_cancel, if_neg (by omega)]; rfl, rfl, hcb, hCb⟩⟩
    · have q2 : kM < (v c).1 := Nat.lt_of_not_le fun z => q ((lg_cmp_le _ _).mpr ((pk_lLE (by show (v c).1 < _; omega) (by omega)).mpr z))
      refine et_ldc2 d_E_cost_37 kl_E_170 ?_
      refine et_goto (tgt := 52) d_E_cost_40 (by decide) ?_
      exact et_lret d_E_cost_52 rfl (Nat.le_of_ble_eq_true rfl) (Nat.le_of_ble_eq_true rfl) ⟨frb, Or.inr ⟨eq0, by rw [cvL, if_neg (Nat.succ_ne_zero _), Nat.add_sub_cancel, if_pos q2], rfl, hcb, hCb⟩⟩
set_option maxHeartbeats 4000000 in
set_option maxRecDepth 100000 in
theorem c_E_best {sc : et_X} {h : Nat → et_MC} {d n : Nat} {f : Nat → Int32} {sz : Nat} {wp : Int32} {g : gr} {p18 : Nat → Int32} {pr : Int32 → Nat} {v : Nat → tri} (hn : 85 ≤ n) (hsz : sz ≤ 60) (hok : gG 40 g) (hc : et_EC f sz wp (gI g) h) (hC : et_CC p18 h) (hp : prOk p18 pr) (hv : bst g pr v) (hvo : ∀ c, c < gC g → tOk (v c)) : et_Cn sc Y_E_best (d + 7) [.ref 0] h n 1 6 (fun r h' n' => (∀ k, (k = 0 ∨ k = 11 ∨ (12 < k ∧ k < 18) ∨ 62 < k) → k ≠ n → h' k = h k) ∧ (((fwN f false false sz 0 1 0).1 ≠ 0 ∧ r = .inr 0 ∧ n' = n + 1 ∧ et_EC f sz (eI (fwN f false false sz 0 1 0).1) (gI g) h' ∧ et_CC p18 h') ∨ ((fwN f false false sz 0 1 0).1 = 0 ∧ n' = n ∧ et_CC p18 h' ∧ ((((gLook (gI g) (sg f sz sz)) = 0 ∧ r = .inl (some (.int (-1)))) ∨ ((gLook (gI g) (sg f sz sz)) ≠ 0 ∧ kM < (v ((gLook (gI g) (sg f sz sz)) - 1)).1 ∧ r = .inl (some (.int (-3)))) ∨ ((gLook (gI g) (sg f sz sz)) ≠ 0 ∧ (v ((gLook (gI g) (sg f sz sz)) - 1)).1 ≤ kM ∧ 60 < (v ((gLook (gI g) (sg f sz sz)) - 1)).2.1 ∧ r = .inl (some (.int (-4))))) ∧ et_EC f 0 wp (gI g) h' ∨ ((gLook (gI g) (sg f sz sz)) ≠ 0 ∧ (v ((gLook (gI g) (sg f sz sz)) - 1)).1 ≤ kM ∧ (v ((gLook (gI g) (sg f sz sz)) - 1)).2.1 ≤ 60 ∧ r = .inl (some (.int (nI (v ((gLook (gI g) (sg f sz sz)) - 1)).2.1))) ∧ ∃ f', et_EC f' (v ((gLook (gI g) (sg f sz sz)) - 1)).2.1 wp (gI g) h' ∧ chs f' (v ((gLook (gI g) (sg f sz sz)) - 1)).2.1 ∧ num f' (v ((gLook (gI g) (sg f sz sz)) - 1)).2.1 = (v ((gLook (gI g) (sg f sz sz)) - 1)).2.2))))) := by
  refine et_Cn.of 2 rfl rfl (by decide) mV_E_best.1 ?_
  obtain ⟨rc, f0⟩ := hc.1
  refine et_aload_n (i := 0) d_E_best_0 rfl rfl ?_
  refine et_invV mV_E_takeTerm (As := []) rfl d_E_best_1 lk_E_152 len_E_takeTerm f0 rfl (Nat.le_of_ble_eq_true rfl) (c_E_takeTerm (d := d) hn hsz hok hc) (by omega) (Nat.le_of_ble_eq_true rfl) (Nat.le_of_ble_eq_true rfl) (fun v ha n' hp => ?_) (fun y h' n' hp => ⟨rfl, fun k a b => hp.1 k (by omega) b, by rcases hp.2 with ⟨e1, e2, e3, e4⟩ | ⟨-, e, -⟩; exact Or.inl ⟨e1, e2, e3, e4, hC.same (fun k a b => hp.1 k (by omega) (by omega))⟩; cases e⟩)
  obtain ⟨fr, hp2⟩ := hp
  rcases hp2 with ⟨-, e, -⟩ | ⟨eq0, hv1, hle, hn2, hc2⟩
  · cases e
  cases hv1
  replace hn2 := hn2.symm
  subst hn2
  obtain ⟨⟨rc2, g0⟩, ⟨md, g1⟩, g2, g3, g10, g11, g12⟩ := id hc2
  have hC2 : et_CC p18 ha := hC.same (fun k a b => fr k (by omega) (by omega))
  obtain ⟨k17, k18, ⟨f19, k19⟩, ⟨f20, k20⟩, ⟨tt, kT⟩, tr, k62⟩ := id hC2
  have ok1 := hok.1.1
  have ok2 := hok.1.2.1
  have hkM : kM = 4611686018427387904 := rfl
  have hle : gLook (gI g) (sg f sz sz) ≤ gC g := hle
  refine et_istore_n (i := 1) (lv' := [_, _, _]) d_E_best_4 rfl (by decide) rfl rfl ?_
  refine et_iload_n (i := 1) d_E_best_5 rfl rfl ?_
  refine et_iconst (v := (-1)) d_E_best_6 (by decide) ?_
  cases hlk : gLook (gI g) (sg f sz sz) with
  | zero =>
    rw [eI_0]
    refine et_icmp_ne (tgt := 12) d_E_best_7 (by decide) (fun q => absurd rfl q) (fun _ => ?_)
    refine et_iconst (v := (-1)) d_E_best_10 (by decide) ?_
    exact et_iret d_E_best_11 rfl (Nat.le_of_ble_eq_true rfl) (Nat.le_of_ble_eq_true rfl) ⟨fun k a b => fr k (by omega) b, Or.inr ⟨eq0, rfl, hC2, Or.inl ⟨Or.inl ⟨rfl, rfl⟩, hc2⟩⟩⟩
  | succ c =>
    rw [hlk] at hle
    have vb := (hvo c hle).1
    have vb2 := (hvo c hle).2.1
    rw [eI_s]
    refine et_icmp_ne (tgt := 12) d_E_best_7 (by decide) (fun _ => ?_) (fun q => absurd q (eI_ns (by omega)))
    refine et_aload_n (i := 0) d_E_best_12 rfl rfl ?_
    refine et_getf (ci := 6) 4 d_E_best_13 g0 rfl in_E (by decide) fl_E_44 rfl ?_
    refine et_invV mV_C_weigh (As := []) rfl d_E_best_16 lk_E_161 len_C_weigh k17 rfl (Nat.le_of_ble_eq_true rfl) (c_C_weigh (d := d) (x := gI g) hok.1 hok.2.2.2 g3 k17 k18 k19 k20 hp hv) (by omega) (Nat.le_of_ble_eq_true rfl) (Nat.le_of_ble_eq_true rfl) (fun v hb n' hp => ?_) (fun x h' n' hp => by cases hp.1)
    obtain ⟨hv1, hn2, fr2, hCH⟩ := hp
    cases hv1
    replace hn2 := hn2.symm
    subst hn2
    obtain ⟨l17, l18, c19, c20, l19, l20, hcl⟩ := id hCH
    have b0 := (fr2 0 (by decide) (by decide)).trans g0
    have hcb : et_EC f 0 wp (gI g) hb := ⟨⟨_, b0⟩, ⟨md, (fr2 1 (by decide) (by decide)).trans g1⟩, (fr2 2 (by decide) (by decide)).trans g2, g3.same (fun k a b => fr2 k (by omega) (by omega)), (fr2 10 (by decide) (by decide)).trans g10, by obtain ⟨va, z⟩ := g11; exact ⟨va, (fr2 11 (by decide) (by decide)).trans z⟩, by obtain ⟨va, z⟩ := g12; exact ⟨va, (fr2 12 (by decide) (by decide)).trans z⟩⟩
    obtain ⟨⟨tf, t1, t2⟩, t3⟩ := id kT
    have kT2 : et_TM tt hb := ⟨⟨tf, (fr2 21 (by decide) (by decide)).trans t1, t2⟩, fun i hi => (fr2 _ (by omega) (by omega)).trans (t3 i hi)⟩
    have l62 := (fr2 62 (by decide) (by decide)).trans k62
    have hCb : et_CC p18 hb := ⟨l17, l18, ⟨_, l19⟩, ⟨_, l20⟩, ⟨tt, kT2⟩, _, l62⟩
    have frb : ∀ k, (k = 0 ∨ k = 11 ∨ (12 < k ∧ k < 18) ∨ 62 < k) → k ≠ n → hb k = h k := fun k a b => (fr2 k (by omega) (by omega)).trans (fr k (by omega) b)
    have hne : c + 1 ≠ 0 := Nat.succ_ne_zero _
    have hcc : c + 1 - 1 = c := rfl
    refine et_aload_n (i := 0) d_E_best_19 rfl rfl ?_
    refine et_getf (ci := 6) 4 d_E_best_20 b0 rfl in_E (by decide) fl_E_44 rfl ?_
    refine et_getf (ci := 0) 1 d_E_best_23 l17 rfl in_C (by decide) fl_E_164 rfl ?_
    refine et_iload_n (i := 1) d_E_best_26 rfl rfl ?_
    refine et_laln d_E_best_27 l19 (by omega) (by first | decide | omega) ?_
    rw [(hcl c hle).1]
    refine et_ldc2 d_E_best_28 kl_E_168 ?_
    rw [lN_kM]
    refine et_lcmp d_E_best_31 ?_
    refine et_if_le (tgt := 38) d_E_best_32 (by decide) (fun q => ?_) (fun q => ?_)
    · have q2 : (v c).1 ≤ kM := (pk_lLE (by show (v c).1 < _; omega) (by omega)).mp ((lg_cmp_le _ _).mp q)
      refine et_aload_n (i := 0) d_E_best_38 rfl rfl ?_
      refine et_getf (ci := 6) 4 d_E_best_39 b0 rfl in_E (by decide) fl_E_44 rfl ?_
      refine et_getf (ci := 0) 2 d_E_best_42 l17 rfl in_C (by decide) fl_E_172 rfl ?_
      refine et_iload_n (i := 1) d_E_best_45 rfl rfl ?_
      refine et_laln d_E_best_46 l20 (by omega) (by first | decide | omega) ?_
      rw [(hcl c hle).2]
      refine et_ldc2 d_E_best_47 kl_E_175 ?_
      rw [show (60 : Int64) = lN 60 from rfl]
      refine et_lcmp d_E_best_50 ?_
      refine et_if_le (tgt := 57) d_E_best_51 (by decide) (fun p => ?_) (fun p => ?_)
      · have p2 : (v c).2.1 ≤ 60 := (pk_lLE (by show (v c).2.1 < _; omega) (by omega)).mp ((lg_cmp_le _ _).mp p)
        refine et_aload_n (i := 0) d_E_best_57 rfl rfl ?_
        refine et_getf (ci := 6) 4 d_E_best_58 b0 rfl in_E (by decide) fl_E_44 rfl ?_
        refine et_getf (ci := 0) 2 d_E_best_61 l17 rfl in_C (by decide) fl_E_172 rfl ?_
        refine et_iload_n (i := 1) d_E_best_64 rfl rfl ?_
        refine et_laln d_E_best_65 l20 (by omega) (by first | decide | omega) ?_
        rw [(hcl c hle).2]
        refine et_l2i d_E_best_66 (lN_i _) ?_
        refine et_istore_n (i := 2) (lv' := [_, _, _]) d_E_best_67 rfl (by decide) rfl rfl ?_
        refine et_aload_n (i := 0) d_E_best_68 rfl rfl ?_
        refine et_getf (ci := 6) 4 d_E_best_69 b0 rfl in_E (by decide) fl_E_44 rfl ?_
        refine et_iload_n (i := 2) d_E_best_72 rfl rfl ?_
        refine et_invV mV_C_spell (As := [_]) rfl d_E_best_73 lk_E_177 len_C_spell l17 rfl (Nat.le_of_ble_eq_true rfl) (c_C_spell (d := d) (x := gI g) (v := v) (v c).2.1 p2 hok.1 hok.2.2.2 (g3.same (fun k a b => fr2 k (by omega) (by omega))) hCH hp hv hvo kT2 l62) (by omega) (Nat.le_of_ble_eq_true rfl) (Nat.le_of_ble_eq_true rfl) (fun v hd n' hp => ?_) (fun x h' n' hp => by cases hp.1)
        obtain ⟨hv1, hn2, fr3, ⟨tr3, m62⟩, tt3, hT3, hsp⟩ := hp
        cases hv1
        replace hn2 := hn2.symm
        subst hn2
        obtain ⟨s1, s2⟩ := hsp c hle q2 (Nat.le_refl _)
        have d0 := (fr3 0 (by omega)).trans b0
        have d1 := (fr3 1 (by omega)).trans ((fr2 1 (by decide) (by decide)).trans g1)
        have d2 := (fr3 2 (by omega)).trans ((fr2 2 (by decide) (by decide)).trans g2)
        have d17 := (fr3 17 (by omega)).trans l17
        obtain ⟨⟨tf3, w1, w2⟩, w3⟩ := id hT3
        refine et_aload_n (i := 0) d_E_best_76 rfl rfl ?_
        refine et_getf (ci := 6) 0 d_E_best_77 d0 rfl in_E (by decide) fl_E_10 rfl ?_
        refine et_aload_n (i := 0) d_E_best_80 rfl rfl ?_
        refine et_getf (ci := 6) 4 d_E_best_81 d0 rfl in_E (by decide) fl_E_44 rfl ?_
        refine et_getf (ci := 0) 3 d_E_best_84 d17 rfl in_C (by decide) fl_E_181 rfl ?_
        refine et_iload_n (i := 1) d_E_best_87 rfl rfl ?_
        refine et_ald4 (r := 22 + c) d_E_best_88 w1 (vp_in_nI (by omega) (by decide)) (by rw [nI_clamp (by omega)]; exact w2 c (by omega)) ?_
        refine et_iload_n (i := 2) d_E_best_89 rfl rfl ?_
        refine et_invV mV_T_become (As := [_, _]) rfl d_E_best_90 lk_E_185 len_T_become d1 rfl (Nat.le_of_ble_eq_true rfl) (c_T_become (d := d + 6) (22 + c) (v c).2.1 p2 (by omega) d1 d2 (w3 c (by omega))) (by omega) (Nat.le_of_ble_eq_true rfl) (Nat.le_of_ble_eq_true rfl) (fun v he n' hp => ?_) (fun x h' n' hp => by cases hp.1)
        obtain ⟨hv1, hn2, fr4, x1, f', x2, x3⟩ := hp
        cases hv1
        replace hn2 := hn2.symm
        subst hn2
        have fr5 : ∀ k, k ≠ 1 → k ≠ 2 → (k < 22 ∨ 62 < k) → k ≠ 19 → k ≠ 20 → he k = ha k := fun k a b c d e => (fr4 k a b).trans ((fr3 k c).trans (fr2 k d e))
        have hEC : et_EC f' (v c).2.1 wp (gI g) he := ⟨⟨_, (fr5 0 (by decide) (by decide) (by omega) (by decide) (by decide)).trans g0⟩, ⟨md, x1⟩, x2, g3.same (fun k a b => fr5 k (by omega) (by omega) (by omega) (by omega) (by omega)), (fr5 10 (by decide) (by decide) (by omega) (by decide) (by decide)).trans g10, by obtain ⟨va, z⟩ := g11; exact ⟨va, (fr5 11 (by decide) (by decide) (by omega) (by decide) (by decide)).trans z⟩, by obtain ⟨va, z⟩ := g12; exact ⟨va, (fr5 12 (by decide) (by decide) (by omega) (by decide) (by decide)).trans z⟩⟩
        have hCd : et_CC p18 hd := ⟨d17, (fr3 18 (by omega)).trans l18, ⟨_, (fr3 19 (by omega)).trans l19⟩, ⟨_, (fr3 20 (by omega)).trans l20⟩, ⟨tt3, hT3⟩, _, m62⟩
        refine et_iload_n (i := 2) d_E_best_93 rfl rfl ?_
        exact et_iret d_E_best_94 rfl (Nat.le_of_ble_eq_true rfl) (Nat.le_of_ble_eq_true rfl) ⟨fun k a b => (fr4 k (by omega) (by omega)).trans ((fr3 k (by omega)).trans (frb k a b)), Or.inr ⟨eq0, rfl, hCd.same (fun k a b => fr4 k (by omega) (by omega)), Or.inr ⟨hne, by rw [hcc]; exact q2, by rw [hcc]; exact p2, by rw [hcc]; rfl, f', by rw [hcc]; exact hEC, by rw [hcc]; exact fun j hj => by rw [x3 j hj]; exact s1 j hj, by rw [hcc, num_same (t' := tt3 c) x3]; exact s2⟩⟩⟩
      · have p2 : 60 < (v c).2.1 := Nat.lt_of_not_le fun z => p ((lg_cmp_le _ _).mpr ((pk_lLE (by show (v c).2.1 < _; omega) (by omega)).mpr z))
        refine et_bipush (v := (-4)) d_E_best_54 (by decide) ?_
        exact et_iret d_E_best_56 rfl (Nat.le_of_ble_eq_true rfl) (Nat.le_of_ble_eq_true rfl) ⟨frb, Or.inr ⟨eq0, rfl, hCb, Or.inl ⟨Or.inr (Or.inr ⟨hne, by rw [hcc]; exact q2, by rw [hcc]; exact p2, rfl⟩), hcb⟩⟩⟩
    · have q2 : kM < (v c).1 := Nat.lt_of_not_le fun z => q ((lg_cmp_le _ _).mpr ((pk_lLE (by show (v c).1 < _; omega) (by omega)).mpr z))
      refine et_bipush (v := (-3)) d_E_best_35 (by decide) ?_
      exact et_iret d_E_best_37 rfl (Nat.le_of_ble_eq_true rfl) (Nat.le_of_ble_eq_true rfl) ⟨frb, Or.inr ⟨eq0, rfl, hCb, Or.inl ⟨Or.inr (Or.inl ⟨hne, by rw [hcc]; exact q2, rfl⟩), hcb⟩⟩⟩
