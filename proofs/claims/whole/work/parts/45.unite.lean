theorem et_gh_nm {x : gx} {y : Nat → Nat} {h : Nat → et_MC} (g : et_gh x h) (e : ∀ c, c < gC x.1 → x.2 c = y c) : et_gh (x.1, y) h := by
  obtain ⟨a4, a5, a6, a7, a8, a9, h3, h4, h5, h6, h7, h8, h9, hA, hN⟩ := g
  exact ⟨a4, a5, a6, a7, a8, a9, h3, h4, h5, h6, h7, h8, h9, hA, fun c hc => by rw [hN c hc, e c hc]⟩
theorem upR_eq {l l' : Nat} (h : upR (fun a b => a = b) l l') : l = l' := by
  cases l <;> cases l'
  · rfl
  · exact h.elim
  · exact h.elim
  · have h' : _ = _ := h
    rw [h']
theorem up_id (l : Nat) : up (fun c => c) l = l := by cases l <;> rfl
theorem gQuot_refl {B : Nat} {g : gr} {P : Nat → Nat → Prop} (hg : gG B g) (hP : ∀ a b, P a b → a = b) : gQuot g P g := by
  obtain ⟨g1, g2, g3, -⟩ := hg
  refine ⟨fun c => c, fun c hc => hc, fun a b _ _ => ⟨fun e => by show gCong g P a b; rw [show a = b from e]; exact (gCong.eqv g P).1 b, fun e => e (fun a b => a = b) ⟨fun _ => rfl, fun _ _ h => h.symm, fun _ _ _ h h' => h.trans h'⟩ hP (fun n m hn hm h1 h2 h3 => by rw [g2 n m hn hm h1 (upR_eq h2) (upR_eq h3)])⟩, fun n hn => ⟨n, hn, rfl, (up_id _).symm, (up_id _).symm, rfl⟩, fun n hn => ⟨n, hn, rfl, (up_id _).symm, (up_id _).symm, rfl⟩, g2, g3, g1.2.1, Nat.le_refl _⟩
theorem up_0 {q : Nat → Nat} {l : Nat} : up q l = 0 ↔ l = 0 := by cases l <;> simp [up]
theorem gQuot_ar {g g' : gr} {P : Nat → Nat → Prop} (h : gQuot g P g') (ha : gAr g) : gAr g' := by
  obtain ⟨q, -, -, -, h4, -⟩ := h
  intro n hn
  obtain ⟨m, hm, e1, e2, e3, -⟩ := h4 n hn
  have := ha m hm
  simp only [e1, e2, e3, up_0, ne_eq]
  exact this
theorem gQuot_g {B : Nat} {g g' : gr} {P : Nat → Nat → Prop} (h : gQuot g P g') (hg : gG B g) : gG B g' := by
  refine ⟨?_, ?_, ?_, gQuot_ar h hg.2.2.2⟩
  · obtain ⟨q, r1, r2, r3, r4, r5, r6, r7, r8⟩ := h
    refine ⟨Nat.le_trans r8 hg.1.1, r7, fun k hk => ?_⟩
    obtain ⟨m0, hm0, u1, u2, u3, u4⟩ := r4 k hk
    obtain ⟨c1, c2, c3⟩ := hg.1.2.2 m0 hm0
    rw [u2, u3, u4]
    exact ⟨r1 _ c1, up_le r1 c2, up_le r1 c3⟩
  · exact h.choose_spec.2.2.2.2.1
  · exact h.choose_spec.2.2.2.2.2.1
/-- the classes of a graph are named by their numbers -/
abbrev gI (g : gr) : gx := (g, fun c => c)
set_option maxHeartbeats 4000000 in
set_option maxRecDepth 100000 in
theorem c_E_same {sc : et_X} {h : Nat → et_MC} {d n : Nat} {f : Nat → Int32} {sz : Nat} {wp : Int32} {x : gx} (hn : 85 ≤ n) (hsz : sz ≤ 60) (hok : gG 40 x.1) (hc : et_EC f sz wp x h) : et_Cn sc Y_E_same (d + 6) [.ref 0] h n 1 6 (fun r h' n' => et_fr n h h' ∧ (((fwN f true false sz 0 1 0).1 ≠ 0 ∧ r = .inr 0 ∧ n' = n + 1 ∧ et_EC f sz (eI (fwN f true false sz 0 1 0).1) x h') ∨ ((fwN f true false sz 0 1 0).1 = 0 ∧ ∃ e, (fwN f true false sz 0 1 0).2 = e + 1 ∧ e < sz ∧ r = .inl (some (.int (if gLook x (sg f e e) = 0 ∨ gLook x (sg f sz (sz - (e + 1))) = 0 then -1 else if gLook x (sg f e e) = gLook x (sg f sz (sz - (e + 1))) then 1 else 0))) ∧ n' = n ∧ et_EC f 0 wp x h'))) := by
  refine et_Cn.of 2 rfl rfl (by decide) mV_E_same.1 ?_
  obtain ⟨⟨rc, f0⟩, ⟨md, h1⟩, h2, hg, h10, ⟨va, h11⟩, st, h12⟩ := hc
  refine et_aload_n (i := 0) d_E_same_0 rfl rfl ?_
  refine et_invV mV_E_demandEquation (As := []) rfl d_E_same_1 lk_E_113 len_E_demandEquation f0 rfl (Nat.le_of_ble_eq_true rfl) (c_E_demandEquation (d := d) hsz f0 h1 h2) (Nat.le_refl _) (Nat.le_of_ble_eq_true rfl) (Nat.le_of_ble_eq_true rfl) (fun v ha n' hp => ?_) (fun y h' n' hp => by
    rcases hp with ⟨-, e, -⟩ | ⟨e, e2, e3, e4⟩
    · cases e
    · subst e4
      exact ⟨rfl, fun k e1 e2' => by simp [va_up, show k ≠ 1 by omega, e2'], Or.inl ⟨e, e2, e3, ⟨rc, by simp [va_up, show (0 : Nat) ≠ n by omega]; exact f0⟩, ⟨_, by simp [va_up, show (1 : Nat) ≠ n by omega]; rfl⟩, by simp [va_up, show (2 : Nat) ≠ n by omega]; exact h2, (hg.same (fun k e1 e2 => by simp [va_up, show k ≠ 1 by omega, show k ≠ n by omega])), by simp [va_up, show (10 : Nat) ≠ n by omega]; exact h10, ⟨va, by simp [va_up, show (11 : Nat) ≠ n by omega]; exact h11⟩, st, by simp [va_up, show (12 : Nat) ≠ n by omega]; exact h12⟩⟩)
  rcases hp with ⟨eq0, hv, hn2, hh2⟩ | ⟨-, e, -⟩
  rotate_left
  · cases e
  cases hv
  replace hn2 := hn2.symm
  subst hn2
  subst hh2
  obtain ⟨e, hes, hq2, -, ⟨m1, hw1⟩, ⟨m2, hw2⟩, hnv1, hnv2⟩ := fw_eq eq0
  have nv1 : ∀ j, j < e → ¬ et_isv (f j) := fun j hj => ptI_nv (hnv1 j hj)
  have nv2 : ∀ j, e + 1 ≤ j → j < sz → ¬ et_isv (f j) := fun j hj hj2 => ptI_nv (hnv2 j hj hj2)
  have hmid : eI (fwN f true false sz 0 1 0).2 = nI e := by rw [hq2, eI_s]
  rw [hmid]
  refine et_aload_n (i := 0) d_E_same_4 rfl rfl ?_
  refine et_getf (ci := 6) 2 d_E_same_5 f0 rfl in_E (by decide) fl_E_28 rfl ?_
  refine et_aload_n (i := 0) d_E_same_8 rfl rfl ?_
  refine et_getf (ci := 6) 0 d_E_same_9 f0 rfl in_E (by decide) fl_E_10 rfl ?_
  refine et_getf (ci := 4) 0 d_E_same_12 rfl rfl in_T (by decide) fl_E_68 rfl ?_
  refine et_iconst (v := 0) d_E_same_15 (by decide) ?_
  refine et_aload_n (i := 0) d_E_same_16 rfl rfl ?_
  refine et_getf (ci := 6) 0 d_E_same_17 f0 rfl in_E (by decide) fl_E_10 rfl ?_
  refine et_getf (ci := 4) 2 d_E_same_20 rfl rfl in_T (by decide) fl_E_116 rfl ?_
  refine et_iconst (v := 0) d_E_same_23 (by decide) ?_
  refine et_invV mV_K_classOf (As := [_, _, _, _]) rfl d_E_same_24 lk_E_103 len_K_classOf h10 rfl (Nat.le_of_ble_eq_true rfl) (c_K_classOf (d := d) (kr := 2) (len := 60) (row := f) (vs := fun _ => 0) false 0 e hok.1 (hg.same (fun k e1 e2 => by simp [va_up, show k ≠ 1 by omega])) h10 h11 h12 h2 (Or.inl (by decide)) (by omega) (Nat.le_refl _) hw1 (fun i _ hi z => absurd z (nv1 i hi))) (by omega) (Nat.le_of_ble_eq_true rfl) (Nat.le_of_ble_eq_true rfl) (fun v hb n' hp => ?_) (fun y h' n' hp => by rcases hp.2.2.2 with ⟨c, x', -, e, -⟩ | ⟨-, e, -⟩ <;> cases e)
  obtain ⟨hn2, fr1, ⟨st1, s121⟩, hres⟩ := hp
  replace hn2 := hn2.symm
  subst hn2
  have hb0 : hb 0 = .inr (6, [.ref 1, .ref 3, .ref 10, .ref 13, .ref 17, .ref 63, .int rc]) := (fr1 0 (by omega) (by omega)).trans f0
  have hb1 : hb 1 = .inr (4, [.ref 2, .int (nI sz), .int (nI e), .int wp]) := fr1 1 (by omega) (by omega)
  have hb2 : hb 2 = .inl (0, 60, .inl f) := (fr1 2 (by omega) (by omega)).trans h2
  have hb10 : hb 10 = .inr (5, [.ref 11, .ref 3, .ref 12]) := (fr1 10 (by omega) (by omega)).trans h10
  have hb11 : hb 11 = .inl (0, 3, .inl va) := (fr1 11 (by omega) (by omega)).trans h11
  have look1 : ∃ w, v = some (.int (eI w)) ∧ w = gLook x (sg f e e) ∧ w ≤ gC x.1 ∧ et_gh x hb := by
    rcases hres with ⟨c, x', e, hv, ok', hc', -, g'⟩ | ⟨e, hv, x', ⟨k, stk, e2⟩, -, -, g'⟩
    · have ex := gEval_look e
      subst ex
      exact ⟨c + 1, by rw [Sum.inl.inj hv, eI_s], by (try simp only [Nat.sub_zero] at e); simp [gLook, e], hc', g'⟩
    · have ex := gEval_look e2
      subst ex
      exact ⟨0, by rw [Sum.inl.inj hv, eI_0], by (try simp only [Nat.sub_zero] at e); simp [gLook, e], Nat.zero_le _, g'⟩
  obtain ⟨w1, hv, hl1, hc1, gg1⟩ := look1
  subst hv
  refine et_istore_n (i := 1) (lv' := [_, _, _]) d_E_same_27 rfl (by decide) rfl rfl ?_
  refine et_aload_n (i := 0) d_E_same_28 rfl rfl ?_
  refine et_getf (ci := 6) 2 d_E_same_29 hb0 rfl in_E (by decide) fl_E_28 rfl ?_
  refine et_aload_n (i := 0) d_E_same_32 rfl rfl ?_
  refine et_getf (ci := 6) 0 d_E_same_33 hb0 rfl in_E (by decide) fl_E_10 rfl ?_
  refine et_getf (ci := 4) 0 d_E_same_36 hb1 rfl in_T (by decide) fl_E_68 rfl ?_
  refine et_aload_n (i := 0) d_E_same_39 rfl rfl ?_
  refine et_getf (ci := 6) 0 d_E_same_40 hb0 rfl in_E (by decide) fl_E_10 rfl ?_
  refine et_getf (ci := 4) 2 d_E_same_43 hb1 rfl in_T (by decide) fl_E_116 rfl ?_
  refine et_iconst (v := 1) d_E_same_46 (by decide) ?_
  refine et_iadd d_E_same_47 ?_
  rw [nI_1]
  refine et_aload_n (i := 0) d_E_same_48 rfl rfl ?_
  refine et_getf (ci := 6) 0 d_E_same_49 hb0 rfl in_E (by decide) fl_E_10 rfl ?_
  refine et_getf (ci := 4) 1 d_E_same_52 hb1 rfl in_T (by decide) fl_E_62 rfl ?_
  refine et_iconst (v := 0) d_E_same_55 (by decide) ?_
  refine et_invV mV_K_classOf (As := [_, _, _, _]) rfl d_E_same_56 lk_E_103 len_K_classOf hb10 rfl (Nat.le_of_ble_eq_true rfl) (c_K_classOf (d := d) (kr := 2) (len := 60) (row := f) (vs := fun _ => 0) false (e + 1) sz hok.1 gg1 hb10 hb11 s121 hb2 (Or.inl (by decide)) hsz (Nat.le_refl _) hw2 (fun i h1 hi z => absurd z (nv2 i h1 hi))) (by omega) (Nat.le_of_ble_eq_true rfl) (Nat.le_of_ble_eq_true rfl) (fun v hd n' hp => ?_) (fun y h' n' hp => by rcases hp.2.2.2 with ⟨c, x', -, e, -⟩ | ⟨-, e, -⟩ <;> cases e)
  obtain ⟨hn2, fr2, ⟨st2, s122⟩, hres⟩ := hp
  replace hn2 := hn2.symm
  subst hn2
  have hd0 : hd 0 = .inr (6, [.ref 1, .ref 3, .ref 10, .ref 13, .ref 17, .ref 63, .int rc]) := (fr2 0 (by omega) (by omega)).trans hb0
  have hd1 : hd 1 = .inr (4, [.ref 2, .int (nI sz), .int (nI e), .int wp]) := (fr2 1 (by omega) (by omega)).trans hb1
  have hd2 : hd 2 = .inl (0, 60, .inl f) := (fr2 2 (by omega) (by omega)).trans hb2
  have hd10 : hd 10 = .inr (5, [.ref 11, .ref 3, .ref 12]) := (fr2 10 (by omega) (by omega)).trans hb10
  have hd11 : hd 11 = .inl (0, 3, .inl va) := (fr2 11 (by omega) (by omega)).trans hb11
  have look2 : ∃ w, v = some (.int (eI w)) ∧ w = gLook x (sg f sz (sz - (e + 1))) ∧ w ≤ gC x.1 ∧ et_gh x hd := by
    rcases hres with ⟨c, x', e, hv, ok', hc', -, g'⟩ | ⟨e, hv, x', ⟨k, stk, e2⟩, -, -, g'⟩
    · have ex := gEval_look e
      subst ex
      exact ⟨c + 1, by rw [Sum.inl.inj hv, eI_s], by (try simp only [Nat.sub_zero] at e); simp [gLook, e], hc', g'⟩
    · have ex := gEval_look e2
      subst ex
      exact ⟨0, by rw [Sum.inl.inj hv, eI_0], by (try simp only [Nat.sub_zero] at e); simp [gLook, e], Nat.zero_le _, g'⟩
  obtain ⟨w2, hv, hl2, hc2, gg2⟩ := look2
  subst hv
  refine et_istore_n (i := 2) (lv' := [_, _, _]) d_E_same_59 rfl (by decide) rfl rfl ?_
  refine et_aload_n (i := 0) d_E_same_60 rfl rfl ?_
  refine et_getf (ci := 6) 0 d_E_same_61 hd0 rfl in_E (by decide) fl_E_10 rfl ?_
  refine et_invV mV_T_clear (As := []) rfl d_E_same_64 lk_E_65 len_T_clear hd1 rfl (Nat.le_of_ble_eq_true rfl) (c_T_clear (d := d) hd1) (by omega) (Nat.le_of_ble_eq_true rfl) (Nat.le_of_ble_eq_true rfl) (fun v h' n' hp => ?_) (fun x h' n' hp => by cases hp.1)
  obtain ⟨hv, hn2, hh2⟩ := hp
  cases hv
  subst hh2
  replace hn2 := hn2.symm
  subst hn2
  have frA : et_fr n h (va_up hd 1 (.inr (4, [.ref 2, .int 0, .int (nI e), .int wp]))) := fun k e1 e2 => by
    simp only [va_up, if_neg (show k ≠ 1 by omega)]
    rw [fr2 k (by omega) (by omega), fr1 k (by omega) (by omega)]
    simp [va_up, show k ≠ 1 by omega]
  have fin : et_EC f 0 wp x (va_up hd 1 (.inr (4, [.ref 2, .int 0, .int (nI e), .int wp]))) := ⟨⟨rc, hd0⟩, ⟨_, rfl⟩, hd2, gg2.same (fun k e1 e2 => by simp [va_up, show k ≠ 1 by omega]), hd10, ⟨va, hd11⟩, st2, s122⟩
  have b1 : gC x.1 < 100 := by have := hok.1.1; have := hok.1.2.1; omega
  refine et_iload_n (i := 1) d_E_same_67 rfl rfl ?_
  refine et_iconst (v := (-1)) d_E_same_68 (by decide) ?_
  refine et_icmp_eq (tgt := 77) d_E_same_69 (by decide) (fun q => ?_) (fun q => ?_)
  · have q2 : w1 = 0 := (eI_none (by omega)).mp q
    refine et_iconst (v := (-1)) d_E_same_77 (by decide) ?_
    exact et_iret d_E_same_78 rfl (Nat.le_of_ble_eq_true rfl) (Nat.le_of_ble_eq_true rfl) ⟨frA, Or.inr ⟨eq0, e, hq2, hes, by rw [← hl1, ← hl2, if_pos (Or.inl q2)], rfl, fin⟩⟩
  have q2 : w1 ≠ 0 := fun z => q ((eI_none (by omega)).mpr z)
  refine et_iload_n (i := 2) d_E_same_72 rfl rfl ?_
  refine et_iconst (v := (-1)) d_E_same_73 (by decide) ?_
  refine et_icmp_ne (tgt := 79) d_E_same_74 (by decide) (fun q3 => ?_) (fun q3 => ?_)
  rotate_left
  · have q4 : w2 = 0 := (eI_none (by omega)).mp q3
    refine et_iconst (v := (-1)) d_E_same_77 (by decide) ?_
    exact et_iret d_E_same_78 rfl (Nat.le_of_ble_eq_true rfl) (Nat.le_of_ble_eq_true rfl) ⟨frA, Or.inr ⟨eq0, e, hq2, hes, by rw [← hl1, ← hl2, if_pos (Or.inr q4)], rfl, fin⟩⟩
  have q4 : w2 ≠ 0 := fun z => q3 ((eI_none (by omega)).mpr z)
  refine et_iload_n (i := 1) d_E_same_79 rfl rfl ?_
  refine et_iload_n (i := 2) d_E_same_80 rfl rfl ?_
  refine et_icmp_ne (tgt := 88) d_E_same_81 (by decide) (fun q5 => ?_) (fun q5 => ?_)
  · have q6 : w1 ≠ w2 := fun z => q5 (by rw [z])
    refine et_iconst (v := 0) d_E_same_88 (by decide) ?_
    exact et_iret d_E_same_89 rfl (Nat.le_of_ble_eq_true rfl) (Nat.le_of_ble_eq_true rfl) ⟨frA, Or.inr ⟨eq0, e, hq2, hes, by rw [← hl1, ← hl2, if_neg (fun z => z.elim q2 q4), if_neg q6], rfl, fin⟩⟩
  · have q6 : w1 = w2 := (eI_eq (by omega) (by omega)).mp q5
    refine et_iconst (v := 1) d_E_same_84 (by decide) ?_
    refine et_goto (tgt := 89) d_E_same_85 (by decide) ?_
    exact et_iret d_E_same_89 rfl (Nat.le_of_ble_eq_true rfl) (Nat.le_of_ble_eq_true rfl) ⟨frA, Or.inr ⟨eq0, e, hq2, hes, by rw [← hl1, ← hl2, if_neg (fun z => z.elim q2 q4), if_pos q6], rfl, fin⟩⟩
set_option maxHeartbeats 4000000 in
set_option maxRecDepth 100000 in
theorem c_E_add {sc : et_X} {h : Nat → et_MC} {d n : Nat} {f : Nat → Int32} {sz : Nat} {wp : Int32} {g : gr} (hn : 85 ≤ n) (hsz : sz ≤ 60) (hok : gG 40 g) (hc : et_EC f sz wp (gI g) h) : et_Cn sc Y_E_add (d + 6) [.ref 0] h n 2 12 (fun r h' n' => et_fr n h h' ∧ (((fwN f false false sz 0 1 0).1 ≠ 0 ∧ r = .inr 0 ∧ n' = n + 1 ∧ et_EC f sz (eI (fwN f false false sz 0 1 0).1) (gI g) h') ∨ ((fwN f false false sz 0 1 0).1 = 0 ∧ gEval true 40 (fun _ => 0) (sg f sz sz) (gI g) = none ∧ r = .inr 1 ∧ n' = n + 1 ∧ et_EC f sz wp (gI g) h') ∨ ((fwN f false false sz 0 1 0).1 = 0 ∧ ∃ c x', gEval true 40 (fun _ => 0) (sg f sz sz) (gI g) = some ([c], x') ∧ r = .inl (some (.int (nI (gN x'.1)))) ∧ n' = n ∧ et_EC f 0 wp (gI x'.1) h'))) := by
  refine et_Cn.of 2 rfl rfl (by decide) mV_E_add.1 ?_
  obtain ⟨⟨rc, f0⟩, ⟨md, h1⟩, h2, hg, h10, ⟨va, h11⟩, st, h12⟩ := hc
  refine et_aload_n (i := 0) d_E_add_0 rfl rfl ?_
  refine et_invV mV_E_demandTerm (As := []) rfl d_E_add_1 lk_E_94 len_E_demandTerm f0 rfl (Nat.le_of_ble_eq_true rfl) (c_E_demandTerm (d := d) hsz f0 h1 h2) (Nat.le_refl _) (Nat.le_of_ble_eq_true rfl) (Nat.le_of_ble_eq_true rfl) (fun v ha n' hp => ?_) (fun y h' n' hp => by
    rcases hp with ⟨-, e, -⟩ | ⟨e, e2, e3, e4⟩
    · cases e
    · subst e4
      exact ⟨rfl, fun k e1 e2' => by simp [va_up, show k ≠ 1 by omega, e2'], Or.inl ⟨e, e2, e3, ⟨rc, by simp [va_up, show (0 : Nat) ≠ n by omega]; exact f0⟩, ⟨_, by simp [va_up, show (1 : Nat) ≠ n by omega]; rfl⟩, by simp [va_up, show (2 : Nat) ≠ n by omega]; exact h2, (hg.same (fun k e1 e2 => by simp [va_up, show k ≠ 1 by omega, show k ≠ n by omega])), by simp [va_up, show (10 : Nat) ≠ n by omega]; exact h10, ⟨va, by simp [va_up, show (11 : Nat) ≠ n by omega]; exact h11⟩, st, by simp [va_up, show (12 : Nat) ≠ n by omega]; exact h12⟩⟩)
  rcases hp with ⟨eq0, hv, hn2, hh2⟩ | ⟨-, e, -⟩
  rotate_left
  · cases e
  cases hv
  replace hn2 := hn2.symm
  subst hn2
  subst hh2
  obtain ⟨mm, hw, hnv⟩ := fw_term eq0
  obtain ⟨a4, a5, a6, a7, a8, a9, k3, -⟩ := id hg
  refine et_aload_n (i := 0) d_E_add_4 rfl rfl ?_
  refine et_getf (ci := 6) 1 d_E_add_5 f0 rfl in_E (by decide) fl_E_19 rfl ?_
  refine et_getf (ci := 1) 4 d_E_add_8 k3 rfl in_G (by decide) fl_E_97 rfl ?_
  refine et_istore_n (i := 1) (lv' := [_, _, _]) d_E_add_11 rfl (by decide) rfl rfl ?_
  refine et_aload_n (i := 0) d_E_add_12 rfl rfl ?_
  refine et_getf (ci := 6) 1 d_E_add_13 f0 rfl in_E (by decide) fl_E_19 rfl ?_
  refine et_getf (ci := 1) 5 d_E_add_16 k3 rfl in_G (by decide) fl_E_100 rfl ?_
  refine et_istore_n (i := 2) (lv' := [_, _, _]) d_E_add_19 rfl (by decide) rfl rfl ?_
  refine et_aload_n (i := 0) d_E_add_20 rfl rfl ?_
  refine et_getf (ci := 6) 2 d_E_add_21 f0 rfl in_E (by decide) fl_E_28 rfl ?_
  refine et_aload_n (i := 0) d_E_add_24 rfl rfl ?_
  refine et_getf (ci := 6) 0 d_E_add_25 f0 rfl in_E (by decide) fl_E_10 rfl ?_
  refine et_getf (ci := 4) 0 d_E_add_28 rfl rfl in_T (by decide) fl_E_68 rfl ?_
  refine et_iconst (v := 0) d_E_add_31 (by decide) ?_
  refine et_aload_n (i := 0) d_E_add_32 rfl rfl ?_
  refine et_getf (ci := 6) 0 d_E_add_33 f0 rfl in_E (by decide) fl_E_10 rfl ?_
  refine et_getf (ci := 4) 1 d_E_add_36 rfl rfl in_T (by decide) fl_E_62 rfl ?_
  refine et_iconst (v := 1) d_E_add_39 (by decide) ?_
  refine et_invV mV_K_classOf (As := [_, _, _, _]) rfl d_E_add_40 lk_E_103 len_K_classOf h10 rfl (Nat.le_of_ble_eq_true rfl) (c_K_classOf (d := d) (kr := 2) (len := 60) (row := f) (vs := fun _ => 0) true 0 sz hok.1 (hg.same (fun k e1 e2 => by simp [va_up, show k ≠ 1 by omega])) h10 h11 h12 h2 (Or.inl (by decide)) hsz (Nat.le_refl _) hw (fun i _ hi z => absurd z (hnv i hi))) (by omega) (Nat.le_of_ble_eq_true rfl) (Nat.le_of_ble_eq_true rfl) (fun v hb n' hp => ?_) (fun y h' n' hp => by rcases hp.2.2.2 with ⟨c, x', -, e, -⟩ | ⟨-, e, -⟩ <;> cases e)
  obtain ⟨hn2, fr1, ⟨st1, s121⟩, hres⟩ := hp
  replace hn2 := hn2.symm
  subst hn2
  have hb0 : hb 0 = .inr (6, [.ref 1, .ref 3, .ref 10, .ref 13, .ref 17, .ref 63, .int rc]) := (fr1 0 (by omega) (by omega)).trans f0
  have hb1 : hb 1 = .inr (4, [.ref 2, .int (nI sz), .int (eI (fwN f false false sz 0 1 0).2), .int wp]) := fr1 1 (by omega) (by omega)
  have hb2 : hb 2 = .inl (0, 60, .inl f) := (fr1 2 (by omega) (by omega)).trans h2
  have hb10 : hb 10 = .inr (5, [.ref 11, .ref 3, .ref 12]) := (fr1 10 (by omega) (by omega)).trans h10
  have hb11 : hb 11 = .inl (0, 3, .inl va) := (fr1 11 (by omega) (by omega)).trans h11
  simp only [Nat.sub_zero] at hres
  rcases hres with ⟨c, x', e, hv, ok', hc', le', g'⟩ | ⟨e, hv, x', -, ok', le', g'⟩
  · cases hv
    refine et_iconst (v := (-1)) d_E_add_43 (by decide) ?_
    refine et_icmp_ne (tgt := 66) d_E_add_44 (by decide) (fun _ => ?_) (fun q => absurd q (eI_ns (by have := ok'.1; have := ok'.2.1; omega)))
    refine et_aload_n (i := 0) d_E_add_66 rfl rfl ?_
    refine et_getf (ci := 6) 0 d_E_add_67 hb0 rfl in_E (by decide) fl_E_10 rfl ?_
    refine et_invV mV_T_clear (As := []) rfl d_E_add_70 lk_E_65 len_T_clear hb1 rfl (Nat.le_of_ble_eq_true rfl) (c_T_clear (d := d) hb1) (by omega) (Nat.le_of_ble_eq_true rfl) (Nat.le_of_ble_eq_true rfl) (fun v h' n' hp => ?_) (fun x h' n' hp => by cases hp.1)
    obtain ⟨hv, hn2, hh2⟩ := hp
    cases hv
    subst hh2
    replace hn2 := hn2.symm
    subst hn2
    obtain ⟨b4, b5, b6, b7, b8, b9, j3, -⟩ := id g'
    have nm := gEval_nm (k := sz) hw (fun i _ hi z => absurd z (hnv i hi)) (fun k hk => (hok.1.2.2 k hk).1) (by omega) e
    refine et_aload_n (i := 0) d_E_add_73 rfl rfl ?_
    refine et_getf (ci := 6) 1 d_E_add_74 hb0 rfl in_E (by decide) fl_E_19 rfl ?_
    refine et_getf (ci := 1) 4 d_E_add_77 j3 rfl in_G (by decide) fl_E_97 rfl ?_
    exact et_iret d_E_add_80 rfl (Nat.le_of_ble_eq_true rfl) (Nat.le_of_ble_eq_true rfl) ⟨fun k e1 e2 => by simp only [va_up, if_neg (show k ≠ 1 by omega)]; rw [fr1 k (by omega) (by omega)]; simp [va_up, show k ≠ 1 by omega], Or.inr (Or.inr ⟨eq0, c, x', e, rfl, rfl, ⟨rc, hb0⟩, ⟨_, rfl⟩, hb2, et_gh_nm (g'.same (fun k e1 e2 => by simp [va_up, show k ≠ 1 by omega])) (fun k hk => by by_cases hk2 : k < gC g; exact (nm k).1 hk2; exact (nm k).2 (Nat.not_lt.mp hk2) hk), hb10, ⟨va, hb11⟩, st1, s121⟩)⟩
  · cases hv
    refine et_iconst (v := (-1)) d_E_add_43 (by decide) ?_
    refine et_icmp_ne (tgt := 66) d_E_add_44 (by decide) (fun q => absurd rfl q) (fun _ => ?_)
    obtain ⟨b4, b5, b6, b7, b8, b9, j3, -⟩ := id g'
    refine et_aload_n (i := 0) d_E_add_47 rfl rfl ?_
    refine et_getf (ci := 6) 1 d_E_add_48 hb0 rfl in_E (by decide) fl_E_19 rfl ?_
    refine et_iload_n (i := 1) d_E_add_51 rfl rfl ?_
    refine et_iload_n (i := 2) d_E_add_52 rfl rfl ?_
    refine et_invV mV_G_goBack (As := [_, _]) rfl d_E_add_53 lk_E_107 len_G_goBack j3 rfl (Nat.le_of_ble_eq_true rfl) (c_G_goBack (d := d) g hok.1 le' g') (by omega) (Nat.le_of_ble_eq_true rfl) (Nat.le_of_ble_eq_true rfl) (fun v hd n' hp => ?_) (fun x h' n' hp => by cases hp.1)
    obtain ⟨hv, hn2, fr2, gg⟩ := hp
    cases hv
    replace hn2 := hn2.symm
    subst hn2
    exact et_throw (x := 1) "there is no room for the term" d_E_add_56 d_E_add_59 d_E_add_60 d_E_add_62 d_E_add_65 (by decide +kernel) cl_E_86 ini_IllegalStateException ins_IllegalStateException thr_1 (by decide +kernel) rfl (Nat.le_of_ble_eq_true rfl) (Nat.le_of_ble_eq_true rfl) (Nat.le_of_ble_eq_true rfl) ⟨fun k e1 e2 => by simp only [va_up, if_neg e2]; rw [fr2 k (by omega), fr1 k (by omega) (by omega)]; simp [va_up, show k ≠ 1 by omega], Or.inr (Or.inl ⟨eq0, e, rfl, rfl, ⟨⟨rc, by simp only [va_up, if_neg (show (0 : Nat) ≠ n by omega)]; exact (fr2 0 (by omega)).trans hb0⟩, ⟨_, by simp only [va_up, if_neg (show (1 : Nat) ≠ n by omega)]; exact (fr2 1 (by omega)).trans hb1⟩, by simp only [va_up, if_neg (show (2 : Nat) ≠ n by omega)]; exact (fr2 2 (by omega)).trans hb2, gg.same (fun k e1 e2 => by simp [va_up, show k ≠ n by omega]), by simp only [va_up, if_neg (show (10 : Nat) ≠ n by omega)]; exact (fr2 10 (by omega)).trans hb10, ⟨va, by simp only [va_up, if_neg (show (11 : Nat) ≠ n by omega)]; exact (fr2 11 (by omega)).trans hb11⟩, st1, by simp only [va_up, if_neg (show (12 : Nat) ≠ n by omega)]; exact (fr2 12 (by omega)).trans s121⟩⟩)⟩
set_option maxHeartbeats 4000000 in
set_option maxRecDepth 100000 in
theorem c_E_unite {sc : et_X} {h : Nat → et_MC} {d n : Nat} {f : Nat → Int32} {sz : Nat} {wp : Int32} {g : gr} (hn : 85 ≤ n) (hsz : sz ≤ 60) (hok : gG 40 g) (hc : et_EC f sz wp (gI g) h) : et_Cn sc Y_E_unite (d + 6) [.ref 0] h n 2 12 (fun r h' n' => et_fr n h h' ∧ (((fwN f true false sz 0 1 0).1 ≠ 0 ∧ r = .inr 0 ∧ n' = n + 1 ∧ et_EC f sz (eI (fwN f true false sz 0 1 0).1) (gI g) h') ∨ ((fwN f true false sz 0 1 0).1 = 0 ∧ ∃ e, (fwN f true false sz 0 1 0).2 = e + 1 ∧ e < sz ∧ (((gEval true 40 (fun _ => 0) (sg f e e) (gI g) = none ∨ ∃ a x1, gEval true 40 (fun _ => 0) (sg f e e) (gI g) = some ([a], x1) ∧ gEval true 40 (fun _ => 0) (sg f sz (sz - (e + 1))) x1 = none) ∧ r = .inr 1 ∧ n' = n + 1 ∧ et_EC f sz wp (gI g) h') ∨ (∃ a x1 b x2 g', gEval true 40 (fun _ => 0) (sg f e e) (gI g) = some ([a], x1) ∧ gEval true 40 (fun _ => 0) (sg f sz (sz - (e + 1))) x1 = some ([b], x2) ∧ gQuot x2.1 (fun u v => u = a ∧ v = b) g' ∧ gG 40 x2.1 ∧ r = .inl (some (.int (nI (gC g')))) ∧ n' = n ∧ et_EC f 0 wp (gI g') h'))))) := by
  refine et_Cn.of 4 rfl rfl (by decide) mV_E_unite.1 ?_
  obtain ⟨⟨rc, f0⟩, ⟨md, h1⟩, h2, hg, h10, ⟨va, h11⟩, st, h12⟩ := hc
  refine et_aload_n (i := 0) d_E_unite_0 rfl rfl ?_
  refine et_invV mV_E_demandEquation (As := []) rfl d_E_unite_1 lk_E_113 len_E_demandEquation f0 rfl (Nat.le_of_ble_eq_true rfl) (c_E_demandEquation (d := d) hsz f0 h1 h2) (Nat.le_refl _) (Nat.le_of_ble_eq_true rfl) (Nat.le_of_ble_eq_true rfl) (fun v ha n' hp => ?_) (fun y h' n' hp => by
    rcases hp with ⟨-, e, -⟩ | ⟨e, e2, e3, e4⟩
    · cases e
    · subst e4
      exact ⟨rfl, fun k e1 e2' => by simp [va_up, show k ≠ 1 by omega, e2'], Or.inl ⟨e, e2, e3, ⟨rc, by simp [va_up, show (0 : Nat) ≠ n by omega]; exact f0⟩, ⟨_, by simp [va_up, show (1 : Nat) ≠ n by omega]; rfl⟩, by simp [va_up, show (2 : Nat) ≠ n by omega]; exact h2, (hg.same (fun k e1 e2 => by simp [va_up, show k ≠ 1 by omega, show k ≠ n by omega])), by simp [va_up, show (10 : Nat) ≠ n by omega]; exact h10, ⟨va, by simp [va_up, show (11 : Nat) ≠ n by omega]; exact h11⟩, st, by simp [va_up, show (12 : Nat) ≠ n by omega]; exact h12⟩⟩)
  rcases hp with ⟨eq0, hv, hn2, hh2⟩ | ⟨-, e, -⟩
  rotate_left
  · cases e
  cases hv
  replace hn2 := hn2.symm
  subst hn2
  subst hh2
  obtain ⟨e, hes, hq2, -, ⟨m1, hw1⟩, ⟨m2, hw2⟩, hnv1, hnv2⟩ := fw_eq eq0
  have nv1 : ∀ j, j < e → ¬ et_isv (f j) := fun j hj => ptI_nv (hnv1 j hj)
  have nv2 : ∀ j, e + 1 ≤ j → j < sz → ¬ et_isv (f j) := fun j hj hj2 => ptI_nv (hnv2 j hj hj2)
  have hmid : eI (fwN f true false sz 0 1 0).2 = nI e := by rw [hq2, eI_s]
  rw [hmid]
  obtain ⟨a4, a5, a6, a7, a8, a9, k3, -⟩ := id hg
  refine et_aload_n (i := 0) d_E_unite_4 rfl rfl ?_
  refine et_getf (ci := 6) 1 d_E_unite_5 f0 rfl in_E (by decide) fl_E_19 rfl ?_
  refine et_getf (ci := 1) 4 d_E_unite_8 k3 rfl in_G (by decide) fl_E_97 rfl ?_
  refine et_istore_n (i := 1) (lv' := [_, _, _, _, _]) d_E_unite_11 rfl (by decide) rfl rfl ?_
  refine et_aload_n (i := 0) d_E_unite_12 rfl rfl ?_
  refine et_getf (ci := 6) 1 d_E_unite_13 f0 rfl in_E (by decide) fl_E_19 rfl ?_
  refine et_getf (ci := 1) 5 d_E_unite_16 k3 rfl in_G (by decide) fl_E_100 rfl ?_
  refine et_istore_n (i := 2) (lv' := [_, _, _, _, _]) d_E_unite_19 rfl (by decide) rfl rfl ?_
  refine et_aload_n (i := 0) d_E_unite_20 rfl rfl ?_
  refine et_getf (ci := 6) 2 d_E_unite_21 f0 rfl in_E (by decide) fl_E_28 rfl ?_
  refine et_aload_n (i := 0) d_E_unite_24 rfl rfl ?_
  refine et_getf (ci := 6) 0 d_E_unite_25 f0 rfl in_E (by decide) fl_E_10 rfl ?_
  refine et_getf (ci := 4) 0 d_E_unite_28 rfl rfl in_T (by decide) fl_E_68 rfl ?_
  refine et_iconst (v := 0) d_E_unite_31 (by decide) ?_
  refine et_aload_n (i := 0) d_E_unite_32 rfl rfl ?_
  refine et_getf (ci := 6) 0 d_E_unite_33 f0 rfl in_E (by decide) fl_E_10 rfl ?_
  refine et_getf (ci := 4) 2 d_E_unite_36 rfl rfl in_T (by decide) fl_E_116 rfl ?_
  refine et_iconst (v := 1) d_E_unite_39 (by decide) ?_
  refine et_invV mV_K_classOf (As := [_, _, _, _]) rfl d_E_unite_40 lk_E_103 len_K_classOf h10 rfl (Nat.le_of_ble_eq_true rfl) (c_K_classOf (d := d) (kr := 2) (len := 60) (row := f) (vs := fun _ => 0) true 0 e hok.1 (hg.same (fun k e1 e2 => by simp [va_up, show k ≠ 1 by omega])) h10 h11 h12 h2 (Or.inl (by decide)) (by omega) (Nat.le_refl _) hw1 (fun i _ hi z => absurd z (nv1 i hi))) (by omega) (Nat.le_of_ble_eq_true rfl) (Nat.le_of_ble_eq_true rfl) (fun v hb n' hp => ?_) (fun y h' n' hp => by rcases hp.2.2.2 with ⟨c, x', -, e, -⟩ | ⟨-, e, -⟩ <;> cases e)
  obtain ⟨hn2, fr1, ⟨st1, s121⟩, hres⟩ := hp
  replace hn2 := hn2.symm
  subst hn2
  have hb0 : hb 0 = .inr (6, [.ref 1, .ref 3, .ref 10, .ref 13, .ref 17, .ref 63, .int rc]) := (fr1 0 (by omega) (by omega)).trans f0
  have hb1 : hb 1 = .inr (4, [.ref 2, .int (nI sz), .int (nI e), .int wp]) := fr1 1 (by omega) (by omega)
  have hb2 : hb 2 = .inl (0, 60, .inl f) := (fr1 2 (by omega) (by omega)).trans h2
  have hb10 : hb 10 = .inr (5, [.ref 11, .ref 3, .ref 12]) := (fr1 10 (by omega) (by omega)).trans h10
  have hb11 : hb 11 = .inl (0, 3, .inl va) := (fr1 11 (by omega) (by omega)).trans h11
  simp only [Nat.sub_zero] at hres
  -- the way on, whatever the first side gave
  have back : ∀ (v2 : Int32) (w1 : Int32) (x3 : gx) (hd : Nat → et_MC) (st3 : Nat → Int32), gLe g x3.1 → et_gh x3 hd → hd 12 = .inl (0, 60, .inl st3) → et_g12 hb hd → (w1 = -1 ∨ v2 = -1) → (gEval true 40 (fun _ => 0) (sg f e e) (gI g) = none ∨ ∃ a x1, gEval true 40 (fun _ => 0) (sg f e e) (gI g) = some ([a], x1) ∧ gEval true 40 (fun _ => 0) (sg f sz (sz - (e + 1))) x1 = none) → et_M sc Y_E_unite (d + 6) 2 12 (fun r h' n' => et_fr n h h' ∧ (((fwN f true false sz 0 1 0).1 ≠ 0 ∧ r = .inr 0 ∧ n' = n + 1 ∧ et_EC f sz (eI (fwN f true false sz 0 1 0).1) (gI g) h') ∨ ((fwN f true false sz 0 1 0).1 = 0 ∧ ∃ e, (fwN f true false sz 0 1 0).2 = e + 1 ∧ e < sz ∧ (((gEval true 40 (fun _ => 0) (sg f e e) (gI g) = none ∨ ∃ a x1, gEval true 40 (fun _ => 0) (sg f e e) (gI g) = some ([a], x1) ∧ gEval true 40 (fun _ => 0) (sg f sz (sz - (e + 1))) x1 = none) ∧ r = .inr 1 ∧ n' = n + 1 ∧ et_EC f sz wp (gI g) h') ∨ (∃ a x1 b x2 g', gEval true 40 (fun _ => 0) (sg f e e) (gI g) = some ([a], x1) ∧ gEval true 40 (fun _ => 0) (sg f sz (sz - (e + 1))) x1 = some ([b], x2) ∧ gQuot x2.1 (fun u v => u = a ∧ v = b) g' ∧ gG 40 x2.1 ∧ r = .inl (some (.int (nI (gC g')))) ∧ n' = n ∧ et_EC f 0 wp (gI g') h'))))) 77 [some (.ref 0), some (.int (nI (gN g))), some (.int (nI (gC g))), some (.int w1), some (.int v2)] [] hd n 1 6 := by
    intro v2 w1 x3 hd st3 le3 g3 s3 fr3 hor hfail
    have hd0 := (fr3 0 (by omega) (by omega)).trans hb0
    have hd1 := (fr3 1 (by omega) (by omega)).trans hb1
    have hd2 := (fr3 2 (by omega) (by omega)).trans hb2
    have hd10 := (fr3 10 (by omega) (by omega)).trans hb10
    have hd11 := (fr3 11 (by omega) (by omega)).trans hb11
    obtain ⟨b4, b5, b6, b7, b8, b9, j3, -⟩ := id g3
    have thr : et_M sc Y_E_unite (d + 6) 2 12 (fun r h' n' => et_fr n h h' ∧ (((fwN f true false sz 0 1 0).1 ≠ 0 ∧ r = .inr 0 ∧ n' = n + 1 ∧ et_EC f sz (eI (fwN f true false sz 0 1 0).1) (gI g) h') ∨ ((fwN f true false sz 0 1 0).1 = 0 ∧ ∃ e, (fwN f true false sz 0 1 0).2 = e + 1 ∧ e < sz ∧ (((gEval true 40 (fun _ => 0) (sg f e e) (gI g) = none ∨ ∃ a x1, gEval true 40 (fun _ => 0) (sg f e e) (gI g) = some ([a], x1) ∧ gEval true 40 (fun _ => 0) (sg f sz (sz - (e + 1))) x1 = none) ∧ r = .inr 1 ∧ n' = n + 1 ∧ et_EC f sz wp (gI g) h') ∨ (∃ a x1 b x2 g', gEval true 40 (fun _ => 0) (sg f e e) (gI g) = some ([a], x1) ∧ gEval true 40 (fun _ => 0) (sg f sz (sz - (e + 1))) x1 = some ([b], x2) ∧ gQuot x2.1 (fun u v => u = a ∧ v = b) g' ∧ gG 40 x2.1 ∧ r = .inl (some (.int (nI (gC g')))) ∧ n' = n ∧ et_EC f 0 wp (gI g') h'))))) 88 [some (.ref 0), some (.int (nI (gN g))), some (.int (nI (gC g))), some (.int w1), some (.int v2)] [] hd n 1 6 := by
      refine et_aload_n (i := 0) d_E_unite_88 rfl rfl ?_
      refine et_getf (ci := 6) 1 d_E_unite_89 hd0 rfl in_E (by decide) fl_E_19 rfl ?_
      refine et_iload_n (i := 1) d_E_unite_92 rfl rfl ?_
      refine et_iload_n (i := 2) d_E_unite_93 rfl rfl ?_
      refine et_invV mV_G_goBack (As := [_, _]) rfl d_E_unite_94 lk_E_107 len_G_goBack j3 rfl (Nat.le_of_ble_eq_true rfl) (c_G_goBack (d := d) g hok.1 le3 g3) (by omega) (Nat.le_of_ble_eq_true rfl) (Nat.le_of_ble_eq_true rfl) (fun v he n' hp => ?_) (fun x h' n' hp => by cases hp.1)
      obtain ⟨hv, hn2, fr2, gg⟩ := hp
      cases hv
      replace hn2 := hn2.symm
      subst hn2
      exact et_throw (x := 1) "there is no room for the terms" d_E_unite_97 d_E_unite_100 d_E_unite_101 d_E_unite_103 d_E_unite_106 (by decide +kernel) cl_E_86 ini_IllegalStateException ins_IllegalStateException thr_1 (by decide +kernel) rfl (Nat.le_of_ble_eq_true rfl) (Nat.le_of_ble_eq_true rfl) (Nat.le_of_ble_eq_true rfl) ⟨fun k e1 e2 => by simp only [va_up, if_neg e2]; rw [fr2 k (by omega), fr3 k (by omega) (by omega), fr1 k (by omega) (by omega)]; simp [va_up, show k ≠ 1 by omega], Or.inr ⟨eq0, e, hq2, hes, Or.inl ⟨hfail, rfl, rfl, ⟨⟨rc, by simp only [va_up, if_neg (show (0 : Nat) ≠ n by omega)]; exact (fr2 0 (by omega)).trans hd0⟩, ⟨_, by simp only [va_up, if_neg (show (1 : Nat) ≠ n by omega)]; exact (fr2 1 (by omega)).trans hd1⟩, by simp only [va_up, if_neg (show (2 : Nat) ≠ n by omega)]; exact (fr2 2 (by omega)).trans hd2, gg.same (fun k e1 e2 => by simp [va_up, show k ≠ n by omega]), by simp only [va_up, if_neg (show (10 : Nat) ≠ n by omega)]; exact (fr2 10 (by omega)).trans hd10, ⟨va, by simp only [va_up, if_neg (show (11 : Nat) ≠ n by omega)]; exact (fr2 11 (by omega)).trans hd11⟩, st3, by simp only [va_up, if_neg (show (12 : Nat) ≠ n by omega)]; exact (fr2 12 (by omega)).trans s3⟩⟩⟩⟩
    refine et_iload_n (i := 3) d_E_unite_77 rfl rfl ?_
    refine et_iconst (v := (-1)) d_E_unite_78 (by decide) ?_
    refine et_icmp_eq (tgt := 88) d_E_unite_79 (by decide) (fun _ => thr) (fun q1 => ?_)
    refine et_iload d_E_unite_82 rfl ?_
    refine et_iconst (v := (-1)) d_E_unite_84 (by decide) ?_
    exact et_icmp_ne (tgt := 107) d_E_unite_85 (by decide) (fun q2 => absurd (hor.resolve_left q1) q2) (fun _ => thr)
  rcases hres with ⟨a, x1, ev1, hv, ok1, ha1, le1, g1⟩ | ⟨ev1, hv, x1, -, ok1, le1, g1⟩
  rotate_left
  · cases hv
    refine et_istore_n (i := 3) (lv' := [_, _, _, _, _]) d_E_unite_43 rfl (by decide) rfl rfl ?_
    refine et_aload_n (i := 0) d_E_unite_44 rfl rfl ?_
    refine et_getf (ci := 6) 2 d_E_unite_45 hb0 rfl in_E (by decide) fl_E_28 rfl ?_
    refine et_aload_n (i := 0) d_E_unite_48 rfl rfl ?_
    refine et_getf (ci := 6) 0 d_E_unite_49 hb0 rfl in_E (by decide) fl_E_10 rfl ?_
    refine et_getf (ci := 4) 0 d_E_unite_52 hb1 rfl in_T (by decide) fl_E_68 rfl ?_
    refine et_aload_n (i := 0) d_E_unite_55 rfl rfl ?_
    refine et_getf (ci := 6) 0 d_E_unite_56 hb0 rfl in_E (by decide) fl_E_10 rfl ?_
    refine et_getf (ci := 4) 2 d_E_unite_59 hb1 rfl in_T (by decide) fl_E_116 rfl ?_
    refine et_iconst (v := 1) d_E_unite_62 (by decide) ?_
    refine et_iadd d_E_unite_63 ?_
    rw [nI_1]
    refine et_aload_n (i := 0) d_E_unite_64 rfl rfl ?_
    refine et_getf (ci := 6) 0 d_E_unite_65 hb0 rfl in_E (by decide) fl_E_10 rfl ?_
    refine et_getf (ci := 4) 1 d_E_unite_68 hb1 rfl in_T (by decide) fl_E_62 rfl ?_
    refine et_iconst (v := 1) d_E_unite_71 (by decide) ?_
    refine et_invV mV_K_classOf (As := [_, _, _, _]) rfl d_E_unite_72 lk_E_103 len_K_classOf hb10 rfl (Nat.le_of_ble_eq_true rfl) (c_K_classOf (d := d) (kr := 2) (len := 60) (row := f) (vs := fun _ => 0) true (e + 1) sz ok1 g1 hb10 hb11 s121 hb2 (Or.inl (by decide)) hsz (Nat.le_refl _) hw2 (fun i h1 hi z => absurd z (nv2 i h1 hi))) (by omega) (Nat.le_of_ble_eq_true rfl) (Nat.le_of_ble_eq_true rfl) (fun v hd n' hp => ?_) (fun y h' n' hp => by rcases hp.2.2.2 with ⟨c, x', -, e, -⟩ | ⟨-, e, -⟩ <;> cases e)
    obtain ⟨hn2, fr3, ⟨st3, s3⟩, hres2⟩ := hp
    replace hn2 := hn2.symm
    subst hn2
    rcases hres2 with ⟨b, x2, -, hv, -, -, le2, g2⟩ | ⟨-, hv, x2, -, -, le2, g2⟩
    · cases hv
      refine et_istore (lv' := [_, _, _, _, _]) d_E_unite_75 (by decide) rfl rfl ?_
      exact back _ _ x2 hd st3 (le1.trans le2) g2 s3 fr3 (Or.inl rfl) (Or.inl ev1)
    · cases hv
      refine et_istore (lv' := [_, _, _, _, _]) d_E_unite_75 (by decide) rfl rfl ?_
      exact back _ _ x2 hd st3 (le1.trans le2) g2 s3 fr3 (Or.inl rfl) (Or.inl ev1)
  · cases hv
    refine et_istore_n (i := 3) (lv' := [_, _, _, _, _]) d_E_unite_43 rfl (by decide) rfl rfl ?_
    refine et_aload_n (i := 0) d_E_unite_44 rfl rfl ?_
    refine et_getf (ci := 6) 2 d_E_unite_45 hb0 rfl in_E (by decide) fl_E_28 rfl ?_
    refine et_aload_n (i := 0) d_E_unite_48 rfl rfl ?_
    refine et_getf (ci := 6) 0 d_E_unite_49 hb0 rfl in_E (by decide) fl_E_10 rfl ?_
    refine et_getf (ci := 4) 0 d_E_unite_52 hb1 rfl in_T (by decide) fl_E_68 rfl ?_
    refine et_aload_n (i := 0) d_E_unite_55 rfl rfl ?_
    refine et_getf (ci := 6) 0 d_E_unite_56 hb0 rfl in_E (by decide) fl_E_10 rfl ?_
    refine et_getf (ci := 4) 2 d_E_unite_59 hb1 rfl in_T (by decide) fl_E_116 rfl ?_
    refine et_iconst (v := 1) d_E_unite_62 (by decide) ?_
    refine et_iadd d_E_unite_63 ?_
    rw [nI_1]
    refine et_aload_n (i := 0) d_E_unite_64 rfl rfl ?_
    refine et_getf (ci := 6) 0 d_E_unite_65 hb0 rfl in_E (by decide) fl_E_10 rfl ?_
    refine et_getf (ci := 4) 1 d_E_unite_68 hb1 rfl in_T (by decide) fl_E_62 rfl ?_
    refine et_iconst (v := 1) d_E_unite_71 (by decide) ?_
    refine et_invV mV_K_classOf (As := [_, _, _, _]) rfl d_E_unite_72 lk_E_103 len_K_classOf hb10 rfl (Nat.le_of_ble_eq_true rfl) (c_K_classOf (d := d) (kr := 2) (len := 60) (row := f) (vs := fun _ => 0) true (e + 1) sz ok1 g1 hb10 hb11 s121 hb2 (Or.inl (by decide)) hsz (Nat.le_refl _) hw2 (fun i h1 hi z => absurd z (nv2 i h1 hi))) (by omega) (Nat.le_of_ble_eq_true rfl) (Nat.le_of_ble_eq_true rfl) (fun v hd n' hp => ?_) (fun y h' n' hp => by rcases hp.2.2.2 with ⟨c, x', -, e, -⟩ | ⟨-, e, -⟩ <;> cases e)
    obtain ⟨hn2, fr3, ⟨st3, s3⟩, hres2⟩ := hp
    replace hn2 := hn2.symm
    subst hn2
    rcases hres2 with ⟨b, x2, ev2, hv, ok2, hb2', le2, g2⟩ | ⟨ev2, hv, x2, -, -, le2, g2⟩
    rotate_left
    · cases hv
      refine et_istore (lv' := [_, _, _, _, _]) d_E_unite_75 (by decide) rfl rfl ?_
      exact back _ _ x2 hd st3 (le1.trans le2) g2 s3 fr3 (Or.inr rfl) (Or.inr ⟨a, x1, ev1, ev2⟩)
    cases hv
    have hd0 := (fr3 0 (by omega) (by omega)).trans hb0
    have hd1 := (fr3 1 (by omega) (by omega)).trans hb1
    have hd2 := (fr3 2 (by omega) (by omega)).trans hb2
    have hd10 := (fr3 10 (by omega) (by omega)).trans hb10
    have hd11 := (fr3 11 (by omega) (by omega)).trans hb11
    obtain ⟨b4, b5, b6, b7, b8, b9, j3, -⟩ := id g2
    have nm1 := gEval_nm (k := e) hw1 (fun i _ hi z => absurd z (nv1 i hi)) (fun k hk => (hok.1.2.2 k hk).1) (by omega) ev1
    have nm2 := gEval_nm (k := sz - (e + 1)) hw2 (fun i h1 hi z => absurd z (nv2 i h1 hi)) (fun k hk => (ok1.2.2 k hk).1) (Nat.le_refl _) ev2
    have G1 := (gEval_g (B := 40) (k := e) (Nat.le_refl _) hw1 (fun i _ hi z => absurd z (nv1 i hi)) hok (by omega) ev1).1
    have G2 := (gEval_g (B := 40) (k := sz - (e + 1)) (Nat.le_refl _) hw2 (fun i h1 hi z => absurd z (nv2 i h1 hi)) G1 (Nat.le_refl _) ev2).1
    have nid2 : ∀ c, c < gC x2.1 → x2.2 c = c := by
      intro c hc
      by_cases c1 : c < gC x1.1
      · rw [(nm2 c).1 c1]
        by_cases c2 : c < gC g
        · exact (nm1 c).1 c2
        · exact (nm1 c).2 (Nat.not_lt.mp c2) c1
      · exact (nm2 c).2 (Nat.not_lt.mp c1) hc
    have a2 : a < gC x2.1 := Nat.lt_of_lt_of_le ha1 le2.2.1
    have nok2 : nOk x2 := fun c hc => by rw [nid2 c hc]; exact hc
    have nI2 : nId x2 := fun c hc => by rw [nid2 c hc, nid2 c hc]
    have b40 : gC x2.1 ≤ 40 := Nat.le_trans ok2.2.1 ok2.1
    refine et_istore (lv' := [_, _, _, _, _]) d_E_unite_75 (by decide) rfl rfl ?_
    refine et_iload_n (i := 3) d_E_unite_77 rfl rfl ?_
    refine et_iconst (v := (-1)) d_E_unite_78 (by decide) ?_
    refine et_icmp_eq (tgt := 88) d_E_unite_79 (by decide) (fun q => absurd q (eI_ns (by omega))) (fun _ => ?_)
    refine et_iload d_E_unite_82 rfl ?_
    refine et_iconst (v := (-1)) d_E_unite_84 (by decide) ?_
    refine et_icmp_ne (tgt := 107) d_E_unite_85 (by decide) (fun _ => ?_) (fun q => absurd q (eI_ns (by omega)))
    refine et_aload_n (i := 0) d_E_unite_107 rfl rfl ?_
    refine et_getf (ci := 6) 1 d_E_unite_108 hd0 rfl in_E (by decide) fl_E_19 rfl ?_
    refine et_iload_n (i := 3) d_E_unite_111 rfl rfl ?_
    refine et_iload d_E_unite_112 rfl ?_
    refine et_invV mV_G_join (As := [_, _]) rfl d_E_unite_114 lk_E_121 len_G_join j3 rfl (Nat.le_of_ble_eq_true rfl) (c_G_join (d := d) a b b40 nok2 a2 hb2' g2) (by omega) (Nat.le_of_ble_eq_true rfl) (Nat.le_of_ble_eq_true rfl) (fun v he n' hp => ?_) (fun x h' n' hp => by rcases hp.2.2.2 with ⟨-, e⟩ | ⟨-, e⟩ <;> cases e)
    obtain ⟨hn2, fr4, g4, hres3⟩ := hp
    replace hn2 := hn2.symm
    subst hn2
    have he0 := (fr4 0 (by omega)).trans hd0
    have he1 := (fr4 1 (by omega)).trans hd1
    have he2 := (fr4 2 (by omega)).trans hd2
    have he10 := (fr4 10 (by omega)).trans hd10
    have he11 := (fr4 11 (by omega)).trans hd11
    have he12 := (fr4 12 (by omega)).trans s3
    have fin : ∀ (g' : gr) (hf : Nat → et_MC), gQuot x2.1 (fun u v => u = a ∧ v = b) g' → et_gh (gI g') hf → et_g9 he hf → et_M sc Y_E_unite (d + 6) 2 12 (fun r h' n' => et_fr n h h' ∧ (((fwN f true false sz 0 1 0).1 ≠ 0 ∧ r = .inr 0 ∧ n' = n + 1 ∧ et_EC f sz (eI (fwN f true false sz 0 1 0).1) (gI g) h') ∨ ((fwN f true false sz 0 1 0).1 = 0 ∧ ∃ e, (fwN f true false sz 0 1 0).2 = e + 1 ∧ e < sz ∧ (((gEval true 40 (fun _ => 0) (sg f e e) (gI g) = none ∨ ∃ a x1, gEval true 40 (fun _ => 0) (sg f e e) (gI g) = some ([a], x1) ∧ gEval true 40 (fun _ => 0) (sg f sz (sz - (e + 1))) x1 = none) ∧ r = .inr 1 ∧ n' = n + 1 ∧ et_EC f sz wp (gI g) h') ∨ (∃ a x1 b x2 g', gEval true 40 (fun _ => 0) (sg f e e) (gI g) = some ([a], x1) ∧ gEval true 40 (fun _ => 0) (sg f sz (sz - (e + 1))) x1 = some ([b], x2) ∧ gQuot x2.1 (fun u v => u = a ∧ v = b) g' ∧ gG 40 x2.1 ∧ r = .inl (some (.int (nI (gC g')))) ∧ n' = n ∧ et_EC f 0 wp (gI g') h'))))) 127 [some (.ref 0), some (.int (nI (gN g))), some (.int (nI (gC g))), some (.int (nI a)), some (.int (nI b))] [] hf n 1 6 := by
      intro g' hf hq' gf fr5
      have hf0 := (fr5 0 (by omega)).trans he0
      have hf1 := (fr5 1 (by omega)).trans he1
      obtain ⟨c4, c5, c6, c7, c8, c9, l3, -⟩ := id gf
      refine et_aload_n (i := 0) d_E_unite_127 rfl rfl ?_
      refine et_getf (ci := 6) 0 d_E_unite_128 hf0 rfl in_E (by decide) fl_E_10 rfl ?_
      refine et_invV mV_T_clear (As := []) rfl d_E_unite_131 lk_E_65 len_T_clear hf1 rfl (Nat.le_of_ble_eq_true rfl) (c_T_clear (d := d) hf1) (by omega) (Nat.le_of_ble_eq_true rfl) (Nat.le_of_ble_eq_true rfl) (fun v h' n' hp => ?_) (fun x h' n' hp => by cases hp.1)
      obtain ⟨hv, hn2, hh2⟩ := hp
      cases hv
      subst hh2
      replace hn2 := hn2.symm
      subst hn2
      refine et_aload_n (i := 0) d_E_unite_134 rfl rfl ?_
      refine et_getf (ci := 6) 1 d_E_unite_135 hf0 rfl in_E (by decide) fl_E_19 rfl ?_
      refine et_getf (ci := 1) 5 d_E_unite_138 l3 rfl in_G (by decide) fl_E_100 rfl ?_
      exact et_iret d_E_unite_141 rfl (Nat.le_of_ble_eq_true rfl) (Nat.le_of_ble_eq_true rfl) ⟨fun k e1 e2 => by simp only [va_up, if_neg (show k ≠ 1 by omega)]; rw [fr5 k (by omega), fr4 k (by omega), fr3 k (by omega) (by omega), fr1 k (by omega) (by omega)]; simp [va_up, show k ≠ 1 by omega], Or.inr ⟨eq0, e, hq2, hes, Or.inr ⟨a, x1, b, x2, g', ev1, ev2, hq', G2, rfl, rfl, ⟨rc, hf0⟩, ⟨_, rfl⟩, (fr5 2 (by omega)).trans he2, gf.same (fun k e1 e2 => by simp [va_up, show k ≠ 1 by omega]), (fr5 10 (by omega)).trans he10, ⟨va, (fr5 11 (by omega)).trans he11⟩, st3, (fr5 12 (by omega)).trans he12⟩⟩⟩
    rcases hres3 with ⟨e5, hv⟩ | ⟨e5, hv⟩
    · cases hv
      rw [nid2 a a2, nid2 b hb2'] at e5
      refine et_if_eq (tgt := 127) d_E_unite_117 (by decide) (fun _ => ?_) (fun q => absurd (by decide) q)
      refine fin x2.1 he (gQuot_refl G2 (fun u v z => by rw [z.1, z.2, e5])) (et_gh_nm (x := gJoin x2 a b) (y := fun c => c) g4 (fun c hc => ?_)) (fun _ _ => rfl)
      have hc' : c < gC x2.1 := hc
      show (if x2.2 c = x2.2 b then x2.2 a else x2.2 c) = c
      rw [nid2 c hc', nid2 b hb2', nid2 a a2]
      by_cases ec : c = b
      · rw [if_pos ec, e5, ec]
      · rw [if_neg ec]
    · cases hv
      refine et_if_eq (tgt := 127) d_E_unite_117 (by decide) (fun q => absurd q (by decide)) (fun _ => ?_)
      obtain ⟨c4, c5, c6, c7, c8, c9, l3, -⟩ := id g4
      obtain ⟨j1, j2⟩ := gJoin_ok nok2 nI2 a2 hb2'
      refine et_aload_n (i := 0) d_E_unite_120 rfl rfl ?_
      refine et_getf (ci := 6) 1 d_E_unite_121 he0 rfl in_E (by decide) fl_E_19 rfl ?_
      refine et_invV mV_G_settle (As := []) rfl d_E_unite_124 lk_E_125 len_G_settle l3 rfl (Nat.le_of_ble_eq_true rfl) (c_G_settle (d := d) (x := gJoin x2 a b) (P := fun u v => u = a ∧ v = b) ok2.bd G2.2.2.1 j1 j2 (gJoin_snd (gCong.eqv x2.1 _) (fun c c' hc hc' e => by rw [nid2 c hc, nid2 c' hc'] at e; rw [e]; exact (gCong.eqv x2.1 _).1 _) (gCong.sub x2.1 _ ⟨rfl, rfl⟩) a2 hb2') (fun u v z => by rw [z.1, z.2]; exact ⟨a2, hb2', gJoin_eq⟩) g4) (by omega) (Nat.le_of_ble_eq_true rfl) (Nat.le_of_ble_eq_true rfl) (fun v hf n' hp => ?_) (fun x h' n' hp => by cases hp.1)
      obtain ⟨hv, hn2, fr5, g', hq', -, gf⟩ := hp
      cases hv
      replace hn2 := hn2.symm
      subst hn2
      exact fin g' hf hq' gf fr5
