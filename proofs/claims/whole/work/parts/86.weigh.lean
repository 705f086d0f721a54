/-! ===== Cheapest: costs and lengths ===== -/
theorem lN_kM : (4611686018427387904 : Int64) = lN kM := by decide +kernel
theorem lN_kM1 : (4611686018427387905 : Int64) = lN (kM + 1) := by decide +kernel
def prOk (p : Nat → Int32) (pr : Int32 → Nat) : Prop := ∀ s, et_pt s ≠ -1 → p s.toNatClampNeg = nI (pr s) ∧ 1 ≤ pr s ∧ pr s ≤ 1000000000
/-- prices, costs, lengths in the cells of the class -/
def et_CH (p18 : Nat → Int32) (w : Nat → pai) (C : Nat) (h : Nat → et_MC) : Prop := h 17 = .inr (0, [.ref 18, .ref 19, .ref 20, .ref 21, .ref 3, .ref 62]) ∧ h 18 = .inl (0, 127, .inl p18) ∧ ∃ c19 c20 : Nat → Int64, h 19 = .inl (1, 40, .inr (.inl c19)) ∧ h 20 = .inl (1, 40, .inr (.inl c20)) ∧ ∀ c, c < C → c19 c = lN (w c).1 ∧ c20 c = lN (w c).2
def wBd (w : Nat → pai) (C : Nat) : Prop := ∀ c, c < C → (w c).1 ≤ kM + 1 ∧ (w c).2 ≤ (w c).1
theorem wBd.a {w : Nat → pai} {C l : Nat} (h : wBd w C) (hl : l ≤ C) : (pA w l).1 ≤ kM + 1 ∧ (pA w l).2 ≤ (pA w l).1 := by
  cases l with
  | zero => exact ⟨Nat.zero_le _, Nat.le_refl _⟩
  | succ k => exact h k hl
theorem gAr_pt {g : gr} (ar : gAr g) {n : Nat} (hn : n < gN g) : et_pt (gS g n) ≠ -1 := by
  rcases ar n hn with ⟨h, -⟩ | ⟨h, -⟩ | ⟨h, -⟩ <;> rw [h] <;> decide
theorem et_ls {f : Nat → Int64} {i : Nat} {v : Int64} : vp_updL f i v i = v := by simp [vp_updL]
theorem et_ln {f : Nat → Int64} {i j : Nat} {v : Int64} (h : j ≠ i) : vp_updL f i v j = f j := by simp [vp_updL, h]
set_option maxHeartbeats 4000000 in
set_option maxRecDepth 100000 in
theorem c_A_fillJ {sc : et_X} {h : Nat → et_MC} {n d k N : Nat} {f : Nat → Int64} {v : Int64} (hN : N < 1000) (hk : h k = .inl (1, N, .inr (.inl f))) : et_Cn sc Y_A_fill_JJ d [.ref k, .long v] h n 0 0 (fun r h' n' => r = .inl none ∧ n' = n ∧ (∃ g : Nat → Int64, h' = va_up h k (.inl (1, N, .inr (.inl g))) ∧ ∀ j, j < N → g j = v)) := by
  refine et_Cn.of 2 rfl rfl (by decide) mS_A_fill_JJ.1 ?_
  have loop : ∀ (t i : Nat) (g : Nat → Int64) (hh : Nat → et_MC), i + t = N → hh = va_up h k (.inl (1, N, .inr (.inl g))) → (∀ j, j < i → g j = v) → et_M sc Y_A_fill_JJ d 0 0 (fun r h' n' => r = .inl none ∧ n' = n ∧ (∃ g : Nat → Int64, h' = va_up h k (.inl (1, N, .inr (.inl g))) ∧ ∀ j, j < N → g j = v)) 6 [some (.ref k), some (.long v), none, some (.int (nI i)), some (.int (nI N))] [] hh n 0 0 := by
    intro t
    induction t with
    | zero =>
      intro i g hh hi he hg
      obtain rfl : i = N := by omega
      refine et_iload_n (i := 3) d_A_fill_JJ_6 rfl rfl ?_
      refine et_iload d_A_fill_JJ_7 rfl ?_
      refine et_icmp_ge (tgt := 22) d_A_fill_JJ_9 (by decide) (fun _ => ?_) (fun q => absurd (nI_le (Nat.le_refl _) (by omega)) q)
      exact et_vret d_A_fill_JJ_22 rfl (Nat.le_refl _) (Nat.le_refl _) ⟨rfl, rfl, g, he, hg⟩
    | succ t ih =>
      intro i g hh hi he hg
      have hkk : hh k = .inl (1, N, .inr (.inl g)) := by rw [he]; simp [va_up]
      refine et_iload_n (i := 3) d_A_fill_JJ_6 rfl rfl ?_
      refine et_iload d_A_fill_JJ_7 rfl ?_
      refine et_icmp_ge (tgt := 22) d_A_fill_JJ_9 (by decide) (fun q => absurd q (nI_ge (by omega) (by omega))) (fun _ => ?_)
      refine et_aload_n (i := 0) d_A_fill_JJ_12 rfl rfl ?_
      refine et_iload_n (i := 3) d_A_fill_JJ_13 rfl rfl ?_
      refine et_lload_n (i := 1) d_A_fill_JJ_14 rfl rfl ?_
      refine et_lasn d_A_fill_JJ_15 hkk (by omega) (by first | decide | omega) ?_
      refine et_iinc (lv' := [_, _, _, _, _]) d_A_fill_JJ_16 rfl (v := nI (i + 1)) (nI_1 i) (by decide) rfl rfl ?_
      refine et_goto (tgt := 6) d_A_fill_JJ_19 (by decide) ?_
      refine ih (i + 1) (vp_updL g i v) _ (by omega) (by rw [he, bx_uu]) (fun j hj => ?_)
      by_cases e : j = i
      · rw [e, et_ls]
      · rw [et_ln e]; exact hg j (by omega)
  refine et_iconst (v := 0) d_A_fill_JJ_0 (by decide) ?_
  refine et_istore_n (i := 3) (lv' := [_, _, _, _, _]) d_A_fill_JJ_1 rfl (by decide) rfl rfl ?_
  refine et_aload_n (i := 0) d_A_fill_JJ_2 rfl rfl ?_
  refine et_alenL (v := nI N) d_A_fill_JJ_3 hk rfl ?_
  refine et_istore (lv' := [_, _, _, _, _]) d_A_fill_JJ_4 (by decide) rfl rfl ?_
  exact loop N 0 f h (by omega) (by funext j; by_cases e : j = k <;> simp [va_up, e, hk]) (fun j hj => absurd hj (Nat.not_lt_zero j))
set_option maxHeartbeats 4000000 in
set_option maxRecDepth 100000 in
theorem c_C_sum {sc : et_X} {h : Nat → et_MC} {d n : Nat} (a b : Nat) (ha : a ≤ kM + 1) (hb : b ≤ kM + 1) : et_Cn sc Y_C_sum d [.long (lN a), .long (lN b)] h n 0 0 (fun r h' n' => r = .inl (some (.long (lN (min (a + b) (kM + 1))))) ∧ n' = n ∧ h' = h) := by
  refine et_Cn.of 0 rfl rfl (by decide) mS_C_sum.1 ?_
  have hkM : kM = 4611686018427387904 := rfl
  refine et_lload_n (i := 0) d_C_sum_0 rfl rfl ?_
  refine et_ldc2 d_C_sum_1 kl_C_65 ?_
  rw [lN_kM]
  refine et_lcmp d_C_sum_4 ?_
  refine et_if_gt (tgt := 18) d_C_sum_5 (by decide) (fun q => ?_) (fun q => ?_)
  · have q2 : kM < a := (pk_lLT (by omega) (by omega)).mp ((lg_cmp_gt _ _).mp q)
    refine et_ldc2 d_C_sum_18 kl_C_40 ?_
    rw [lN_kM1]
    refine et_goto (tgt := 27) d_C_sum_21 (by decide) ?_
    exact et_lret d_C_sum_27 rfl (Nat.le_refl _) (Nat.le_refl _) ⟨by rw [Nat.min_eq_right (by omega)], rfl, rfl⟩
  · have q2 : a ≤ kM := Nat.le_of_not_lt fun z => q ((lg_cmp_gt _ _).mpr ((pk_lLT (by omega) (by omega)).mpr z))
    refine et_lload_n (i := 2) d_C_sum_8 rfl rfl ?_
    refine et_ldc2 d_C_sum_9 kl_C_65 ?_
    rw [lN_kM]
    refine et_lload_n (i := 0) d_C_sum_12 rfl rfl ?_
    refine et_lsub d_C_sum_13 ?_
    rw [lN_sub q2]
    refine et_lcmp d_C_sum_14 ?_
    refine et_if_le (tgt := 24) d_C_sum_15 (by decide) (fun p => ?_) (fun p => ?_)
    · have p2 : b ≤ kM - a := (pk_lLE (by omega) (by omega)).mp ((lg_cmp_le _ _).mp p)
      refine et_lload_n (i := 0) d_C_sum_24 rfl rfl ?_
      refine et_lload_n (i := 2) d_C_sum_25 rfl rfl ?_
      refine et_ladd d_C_sum_26 ?_
      rw [lN_add]
      exact et_lret d_C_sum_27 rfl (Nat.le_refl _) (Nat.le_refl _) ⟨by rw [Nat.min_eq_left (by omega)], rfl, rfl⟩
    · have p2 : kM - a < b := Nat.lt_of_not_le fun z => p ((lg_cmp_le _ _).mpr ((pk_lLE (by omega) (by omega)).mpr z))
      refine et_ldc2 d_C_sum_18 kl_C_40 ?_
      rw [lN_kM1]
      refine et_goto (tgt := 27) d_C_sum_21 (by decide) ?_
      exact et_lret d_C_sum_27 rfl (Nat.le_refl _) (Nat.le_refl _) ⟨by rw [Nat.min_eq_right (by omega)], rfl, rfl⟩
set_option maxHeartbeats 4000000 in
set_option maxRecDepth 100000 in
theorem c_C_costThrough {sc : et_X} {h : Nat → et_MC} {d n : Nat} {x : gx} {p18 : Nat → Int32} {pr : Int32 → Nat} {w : Nat → pai} (k : Nat) (hk : k < gN x.1) (ok : gOk 40 x.1) (ar : gAr x.1) (hg : et_gh x h) (hc : et_CH p18 w (gC x.1) h) (hp : prOk p18 pr) (wb : wBd w (gC x.1)) : et_Cn sc Y_C_costThrough (d + 1) [.ref 17, .int (nI k)] h n 0 0 (fun r h' n' => r = .inl (some (.long (lN (min (pB x.1 pr w k).1 (kM + 1))))) ∧ n' = n ∧ h' = h) := by
  refine et_Cn.of 2 rfl rfl (by decide) mV_C_costThrough.1 ?_
  obtain ⟨a4, a5, a6, a7, a8, a9, h3, h4, h5, h6, h7, h8, h9, hnode, hname⟩ := id hg
  obtain ⟨h17, h18, c19, c20, h19, h20, hcl⟩ := id hc
  obtain ⟨e1, e2, e3, e4⟩ := hnode k hk
  obtain ⟨o1, o2, o3⟩ := ok.2.2 k hk
  have ok1 := ok.1
  have ok2 := ok.2.1
  have hkM : kM = 4611686018427387904 := rfl
  have pt := gAr_pt ar hk
  obtain ⟨q1, q2, q3⟩ := pt_nn pt
  obtain ⟨r1, r2, r3⟩ := hp _ pt
  obtain ⟨bl1, bl2⟩ := wb.a o2
  obtain ⟨br1, br2⟩ := wb.a o3
  have last : ∀ v, v = min (pB x.1 pr w k).1 (kM + 1) → et_M sc Y_C_costThrough (d + 1) 0 0 (fun r h' n' => r = .inl (some (.long (lN (min (pB x.1 pr w k).1 (kM + 1))))) ∧ n' = n ∧ h' = h) 80 [some (.ref 17), some (.int (nI k)), some (.long (lN (v))), none] [] h n 0 0 := by
    intro v hv
    subst hv
    refine et_lload_n (i := 2) d_C_costThrough_80 rfl rfl ?_
    exact et_lret d_C_costThrough_81 rfl (Nat.le_refl _) (Nat.le_refl _) ⟨rfl, rfl, rfl⟩
  have eB : (pB x.1 pr w k).1 = pr (gS x.1 k) + (pA w (gL x.1 k)).1 + (pA w (gR x.1 k)).1 := rfl
  have second : ∀ v, v = min (pr (gS x.1 k) + (pA w (gL x.1 k)).1) (kM + 1) → et_M sc Y_C_costThrough (d + 1) 0 0 (fun r h' n' => r = .inl (some (.long (lN (min (pB x.1 pr w k).1 (kM + 1))))) ∧ n' = n ∧ h' = h) 48 [some (.ref 17), some (.int (nI k)), some (.long (lN (v))), none] [] h n 0 0 := by
    intro v hv
    refine et_aload_n (i := 0) d_C_costThrough_48 rfl rfl ?_
    refine et_getf (ci := 0) 4 d_C_costThrough_49 h17 rfl in_C (by decide) fl_C_30 rfl ?_
    refine et_getf (ci := 1) 2 d_C_costThrough_52 h3 rfl in_G (by decide) fl_C_80 rfl ?_
    refine et_iload_n (i := 1) d_C_costThrough_55 rfl rfl ?_
    refine et_ialn d_C_costThrough_56 h6 (by omega) (by first | decide | omega) ?_
    rw [e3]
    refine et_iconst (v := (-1)) d_C_costThrough_57 (by decide) ?_
    cases hR : gR x.1 k with
    | zero =>
      rw [eI_0]
      refine et_icmp_eq (tgt := 80) d_C_costThrough_58 (by decide) (fun _ => ?_) (fun q => absurd rfl q)
      exact last v (by rw [eB, hR, hv]; rfl)
    | succ b =>
      rw [hR] at o3 e3 br1
      rw [eI_s]
      refine et_icmp_eq (tgt := 80) d_C_costThrough_58 (by decide) (fun q => absurd q (eI_ns (by omega))) (fun _ => ?_)
      refine et_lload_n (i := 2) d_C_costThrough_61 rfl rfl ?_
      refine et_aload_n (i := 0) d_C_costThrough_62 rfl rfl ?_
      refine et_getf (ci := 0) 1 d_C_costThrough_63 h17 rfl in_C (by decide) fl_C_15 rfl ?_
      refine et_aload_n (i := 0) d_C_costThrough_66 rfl rfl ?_
      refine et_getf (ci := 0) 4 d_C_costThrough_67 h17 rfl in_C (by decide) fl_C_30 rfl ?_
      refine et_getf (ci := 1) 2 d_C_costThrough_70 h3 rfl in_G (by decide) fl_C_80 rfl ?_
      refine et_iload_n (i := 1) d_C_costThrough_73 rfl rfl ?_
      refine et_ialn d_C_costThrough_74 h6 (by omega) (by first | decide | omega) ?_
      rw [e3, eI_s]
      refine et_laln d_C_costThrough_75 h19 (by omega) (by first | decide | omega) ?_
      rw [(hcl b (by omega)).1]
      refine et_invS mS_C_sum (As := [_, _]) rfl d_C_costThrough_76 lk_C_76 len_C_sum (Nat.le_of_ble_eq_true rfl) (c_C_sum (d := d) v (w b).1 (by omega) br1) (Nat.le_refl _) (Nat.le_of_ble_eq_true rfl) (Nat.le_of_ble_eq_true rfl) (fun v h' n' hp => ?_) (fun x h' n' hp => by cases hp.1)
      obtain ⟨hv, hn2, hh2⟩ := hp
      cases hv
      subst hh2
      replace hn2 := hn2.symm
      subst hn2
      refine et_lstore_n (i := 2) (lv' := [_, _, _, _]) d_C_costThrough_79 rfl (by decide) rfl rfl ?_
      exact last _ (by rw [eB, hR, hv]; show min (min _ _ + (w b).1) _ = min (_ + (w b).1) _; omega)
  refine et_aload_n (i := 0) d_C_costThrough_0 rfl rfl ?_
  refine et_getf (ci := 0) 0 d_C_costThrough_1 h17 rfl in_C (by decide) fl_C_9 rfl ?_
  refine et_aload_n (i := 0) d_C_costThrough_4 rfl rfl ?_
  refine et_getf (ci := 0) 4 d_C_costThrough_5 h17 rfl in_C (by decide) fl_C_30 rfl ?_
  refine et_getf (ci := 1) 0 d_C_costThrough_8 h3 rfl in_G (by decide) fl_C_70 rfl ?_
  refine et_iload_n (i := 1) d_C_costThrough_11 rfl rfl ?_
  refine et_ialn d_C_costThrough_12 h4 (by omega) (by first | decide | omega) ?_
  rw [e1]
  refine et_iald d_C_costThrough_13 h18 (by rw [q3]; exact vp_in_nI q2 (by decide)) ?_
  rw [r1]
  refine et_i2l d_C_costThrough_14 (nI_l (by omega)) ?_
  refine et_lstore_n (i := 2) (lv' := [_, _, _, _]) d_C_costThrough_15 rfl (by decide) rfl rfl ?_
  refine et_aload_n (i := 0) d_C_costThrough_16 rfl rfl ?_
  refine et_getf (ci := 0) 4 d_C_costThrough_17 h17 rfl in_C (by decide) fl_C_30 rfl ?_
  refine et_getf (ci := 1) 1 d_C_costThrough_20 h3 rfl in_G (by decide) fl_C_73 rfl ?_
  refine et_iload_n (i := 1) d_C_costThrough_23 rfl rfl ?_
  refine et_ialn d_C_costThrough_24 h5 (by omega) (by first | decide | omega) ?_
  rw [e2]
  refine et_iconst (v := (-1)) d_C_costThrough_25 (by decide) ?_
  cases hL : gL x.1 k with
  | zero =>
    rw [eI_0]
    refine et_icmp_eq (tgt := 48) d_C_costThrough_26 (by decide) (fun _ => ?_) (fun q => absurd rfl q)
    exact second _ (by rw [hL]; show _ = min (_ + 0) _; omega)
  | succ b =>
    rw [hL] at o2 e2 bl1
    rw [eI_s]
    refine et_icmp_eq (tgt := 48) d_C_costThrough_26 (by decide) (fun q => absurd q (eI_ns (by omega))) (fun _ => ?_)
    refine et_lload_n (i := 2) d_C_costThrough_29 rfl rfl ?_
    refine et_aload_n (i := 0) d_C_costThrough_30 rfl rfl ?_
    refine et_getf (ci := 0) 1 d_C_costThrough_31 h17 rfl in_C (by decide) fl_C_15 rfl ?_
    refine et_aload_n (i := 0) d_C_costThrough_34 rfl rfl ?_
    refine et_getf (ci := 0) 4 d_C_costThrough_35 h17 rfl in_C (by decide) fl_C_30 rfl ?_
    refine et_getf (ci := 1) 1 d_C_costThrough_38 h3 rfl in_G (by decide) fl_C_73 rfl ?_
    refine et_iload_n (i := 1) d_C_costThrough_41 rfl rfl ?_
    refine et_ialn d_C_costThrough_42 h5 (by omega) (by first | decide | omega) ?_
    rw [e2, eI_s]
    refine et_laln d_C_costThrough_43 h19 (by omega) (by first | decide | omega) ?_
    rw [(hcl b (by omega)).1]
    refine et_invS mS_C_sum (As := [_, _]) rfl d_C_costThrough_44 lk_C_76 len_C_sum (Nat.le_of_ble_eq_true rfl) (c_C_sum (d := d) (pr (gS x.1 k)) (w b).1 (by omega) bl1) (Nat.le_refl _) (Nat.le_of_ble_eq_true rfl) (Nat.le_of_ble_eq_true rfl) (fun v h' n' hp => ?_) (fun x h' n' hp => by cases hp.1)
    obtain ⟨hv, hn2, hh2⟩ := hp
    cases hv
    subst hh2
    replace hn2 := hn2.symm
    subst hn2
    refine et_lstore_n (i := 2) (lv' := [_, _, _, _]) d_C_costThrough_47 rfl (by decide) rfl rfl ?_
    exact second _ (by rw [hL]; rfl)
set_option maxHeartbeats 4000000 in
set_option maxRecDepth 100000 in
theorem c_C_lengthThrough {sc : et_X} {h : Nat → et_MC} {d n : Nat} {x : gx} {p18 : Nat → Int32} (pr : Int32 → Nat) {w : Nat → pai} (k : Nat) (hk : k < gN x.1) (ok : gOk 40 x.1) (hg : et_gh x h) (hc : et_CH p18 w (gC x.1) h) : et_Cn sc Y_C_lengthThrough d [.ref 17, .int (nI k)] h n 0 0 (fun r h' n' => r = .inl (some (.long (lN (pB x.1 pr w k).2))) ∧ n' = n ∧ h' = h) := by
  refine et_Cn.of 2 rfl rfl (by decide) mV_C_lengthThrough.1 ?_
  obtain ⟨a4, a5, a6, a7, a8, a9, h3, h4, h5, h6, h7, h8, h9, hnode, hname⟩ := id hg
  obtain ⟨h17, h18, c19, c20, h19, h20, hcl⟩ := id hc
  obtain ⟨e1, e2, e3, e4⟩ := hnode k hk
  obtain ⟨o1, o2, o3⟩ := ok.2.2 k hk
  have ok1 := ok.1
  have ok2 := ok.2.1
  have hkM : kM = 4611686018427387904 := rfl
  have last : ∀ v, v = (pB x.1 pr w k).2 → et_M sc Y_C_lengthThrough d 0 0 (fun r h' n' => r = .inl (some (.long (lN (pB x.1 pr w k).2))) ∧ n' = n ∧ h' = h) 62 [some (.ref 17), some (.int (nI k)), some (.long (lN (v))), none] [] h n 0 0 := by
    intro v hv
    subst hv
    refine et_lload_n (i := 2) d_C_lengthThrough_62 rfl rfl ?_
    exact et_lret d_C_lengthThrough_63 rfl (Nat.le_refl _) (Nat.le_refl _) ⟨rfl, rfl, rfl⟩
  have eB : (pB x.1 pr w k).2 = 1 + (pA w (gL x.1 k)).2 + (pA w (gR x.1 k)).2 := rfl
  have second : ∀ v, v = 1 + (pA w (gL x.1 k)).2 → et_M sc Y_C_lengthThrough d 0 0 (fun r h' n' => r = .inl (some (.long (lN (pB x.1 pr w k).2))) ∧ n' = n ∧ h' = h) 32 [some (.ref 17), some (.int (nI k)), some (.long (lN (v))), none] [] h n 0 0 := by
    intro v hv
    refine et_aload_n (i := 0) d_C_lengthThrough_32 rfl rfl ?_
    refine et_getf (ci := 0) 4 d_C_lengthThrough_33 h17 rfl in_C (by decide) fl_C_30 rfl ?_
    refine et_getf (ci := 1) 2 d_C_lengthThrough_36 h3 rfl in_G (by decide) fl_C_80 rfl ?_
    refine et_iload_n (i := 1) d_C_lengthThrough_39 rfl rfl ?_
    refine et_ialn d_C_lengthThrough_40 h6 (by omega) (by first | decide | omega) ?_
    rw [e3]
    refine et_iconst (v := (-1)) d_C_lengthThrough_41 (by decide) ?_
    cases hR : gR x.1 k with
    | zero =>
      rw [eI_0]
      refine et_icmp_eq (tgt := 62) d_C_lengthThrough_42 (by decide) (fun _ => ?_) (fun q => absurd rfl q)
      exact last v (by rw [eB, hR, hv]; rfl)
    | succ b =>
      rw [hR] at o3 e3
      rw [eI_s]
      refine et_icmp_eq (tgt := 62) d_C_lengthThrough_42 (by decide) (fun q => absurd q (eI_ns (by omega))) (fun _ => ?_)
      refine et_lload_n (i := 2) d_C_lengthThrough_45 rfl rfl ?_
      refine et_aload_n (i := 0) d_C_lengthThrough_46 rfl rfl ?_
      refine et_getf (ci := 0) 2 d_C_lengthThrough_47 h17 rfl in_C (by decide) fl_C_19 rfl ?_
      refine et_aload_n (i := 0) d_C_lengthThrough_50 rfl rfl ?_
      refine et_getf (ci := 0) 4 d_C_lengthThrough_51 h17 rfl in_C (by decide) fl_C_30 rfl ?_
      refine et_getf (ci := 1) 2 d_C_lengthThrough_54 h3 rfl in_G (by decide) fl_C_80 rfl ?_
      refine et_iload_n (i := 1) d_C_lengthThrough_57 rfl rfl ?_
      refine et_ialn d_C_lengthThrough_58 h6 (by omega) (by first | decide | omega) ?_
      rw [e3, eI_s]
      refine et_laln d_C_lengthThrough_59 h20 (by omega) (by first | decide | omega) ?_
      rw [(hcl b (by omega)).2]
      refine et_ladd d_C_lengthThrough_60 ?_
      rw [lN_add]
      refine et_lstore_n (i := 2) (lv' := [_, _, _, _]) d_C_lengthThrough_61 rfl (by decide) rfl rfl ?_
      exact last _ (by rw [eB, hR, hv]; rfl)
  refine et_lconst (v := lN 1) d_C_lengthThrough_0 (by decide) ?_
  refine et_lstore_n (i := 2) (lv' := [_, _, _, _]) d_C_lengthThrough_1 rfl (by decide) rfl rfl ?_
  refine et_aload_n (i := 0) d_C_lengthThrough_2 rfl rfl ?_
  refine et_getf (ci := 0) 4 d_C_lengthThrough_3 h17 rfl in_C (by decide) fl_C_30 rfl ?_
  refine et_getf (ci := 1) 1 d_C_lengthThrough_6 h3 rfl in_G (by decide) fl_C_73 rfl ?_
  refine et_iload_n (i := 1) d_C_lengthThrough_9 rfl rfl ?_
  refine et_ialn d_C_lengthThrough_10 h5 (by omega) (by first | decide | omega) ?_
  rw [e2]
  refine et_iconst (v := (-1)) d_C_lengthThrough_11 (by decide) ?_
  cases hL : gL x.1 k with
  | zero =>
    rw [eI_0]
    refine et_icmp_eq (tgt := 32) d_C_lengthThrough_12 (by decide) (fun _ => ?_) (fun q => absurd rfl q)
    exact second _ (by rw [hL]; rfl)
  | succ b =>
    rw [hL] at o2 e2
    rw [eI_s]
    refine et_icmp_eq (tgt := 32) d_C_lengthThrough_12 (by decide) (fun q => absurd q (eI_ns (by omega))) (fun _ => ?_)
    refine et_lload_n (i := 2) d_C_lengthThrough_15 rfl rfl ?_
    refine et_aload_n (i := 0) d_C_lengthThrough_16 rfl rfl ?_
    refine et_getf (ci := 0) 2 d_C_lengthThrough_17 h17 rfl in_C (by decide) fl_C_19 rfl ?_
    refine et_aload_n (i := 0) d_C_lengthThrough_20 rfl rfl ?_
    refine et_getf (ci := 0) 4 d_C_lengthThrough_21 h17 rfl in_C (by decide) fl_C_30 rfl ?_
    refine et_getf (ci := 1) 1 d_C_lengthThrough_24 h3 rfl in_G (by decide) fl_C_73 rfl ?_
    refine et_iload_n (i := 1) d_C_lengthThrough_27 rfl rfl ?_
    refine et_ialn d_C_lengthThrough_28 h5 (by omega) (by first | decide | omega) ?_
    rw [e2, eI_s]
    refine et_laln d_C_lengthThrough_29 h20 (by omega) (by first | decide | omega) ?_
    rw [(hcl b (by omega)).2]
    refine et_ladd d_C_lengthThrough_30 ?_
    rw [lN_add]
    refine et_lstore_n (i := 2) (lv' := [_, _, _, _]) d_C_lengthThrough_31 rfl (by decide) rfl rfl ?_
    exact second _ (by rw [hL]; rfl)
set_option maxHeartbeats 4000000 in
set_option maxRecDepth 100000 in
theorem c_C_weighNode {sc : et_X} {h : Nat → et_MC} {d n : Nat} {x : gx} {p18 : Nat → Int32} {pr : Int32 → Nat} {w : Nat → pai} (k : Nat) (hk : k < gN x.1) (ok : gOk 40 x.1) (ar : gAr x.1) (hg : et_gh x h) (hc : et_CH p18 w (gC x.1) h) (hp : prOk p18 pr) (wb : wBd w (gC x.1)) : et_Cn sc Y_C_weighNode (d + 2) [.ref 17, .int (nI k)] h n 0 0 (fun r h' n' => n' = n ∧ (∀ q, q ≠ 19 → q ≠ 20 → h' q = h q) ∧ ((r = .inl (some (.int 0)) ∧ h' = h ∧ ((pB x.1 pr w k).1 ≤ kM → pLe (w (gH x.1 k)) (pB x.1 pr w k))) ∨ (r = .inl (some (.int 1)) ∧ (pB x.1 pr w k).1 ≤ kM ∧ ¬ pLe (w (gH x.1 k)) (pB x.1 pr w k) ∧ et_CH p18 (gUp w (gH x.1 k) (pB x.1 pr w k)) (gC x.1) h'))) := by
  refine et_Cn.of 5 rfl rfl (by decide) mV_C_weighNode.1 ?_
  obtain ⟨a4, a5, a6, a7, a8, a9, h3, h4, h5, h6, h7, h8, h9, hnode, hname⟩ := id hg
  obtain ⟨h17, h18, c19, c20, h19, h20, hcl⟩ := id hc
  obtain ⟨e1, e2, e3, e4⟩ := hnode k hk
  obtain ⟨o1, o2, o3⟩ := ok.2.2 k hk
  have ok1 := ok.1
  have ok2 := ok.2.1
  have hkM : kM = 4611686018427387904 := rfl
  obtain ⟨bl1, bl2⟩ := wb.a o2
  obtain ⟨br1, br2⟩ := wb.a o3
  obtain ⟨wh1, wh2⟩ := wb _ o1
  have hpr := (hp _ (gAr_pt ar hk)).2.1
  have eB1 : (pB x.1 pr w k).1 = pr (gS x.1 k) + (pA w (gL x.1 k)).1 + (pA w (gR x.1 k)).1 := rfl
  have eB2 : (pB x.1 pr w k).2 = 1 + (pA w (gL x.1 k)).2 + (pA w (gR x.1 k)).2 := rfl
  have pdef : pLe (w (gH x.1 k)) (pB x.1 pr w k) ↔ (w (gH x.1 k)).1 < (pB x.1 pr w k).1 ∨ ((w (gH x.1 k)).1 = (pB x.1 pr w k).1 ∧ (w (gH x.1 k)).2 ≤ (pB x.1 pr w k).2) := Iff.rfl
  generalize hB : pB x.1 pr w k = B at *
  refine et_aload_n (i := 0) d_C_weighNode_0 rfl rfl ?_
  refine et_getf (ci := 0) 4 d_C_weighNode_1 h17 rfl in_C (by decide) fl_C_30 rfl ?_
  refine et_getf (ci := 1) 3 d_C_weighNode_4 h3 rfl in_G (by decide) fl_C_58 rfl ?_
  refine et_iload_n (i := 1) d_C_weighNode_7 rfl rfl ?_
  refine et_ialn d_C_weighNode_8 h7 (by omega) (by first | decide | omega) ?_
  rw [e4]
  refine et_istore_n (i := 2) (lv' := [_, _, _, _, _, _, _]) d_C_weighNode_9 rfl (by decide) rfl rfl ?_
  refine et_aload_n (i := 0) d_C_weighNode_10 rfl rfl ?_
  refine et_iload_n (i := 1) d_C_weighNode_11 rfl rfl ?_
  refine et_invV mV_C_costThrough (As := [_]) rfl d_C_weighNode_12 lk_C_61 len_C_costThrough h17 rfl (Nat.le_of_ble_eq_true rfl) (c_C_costThrough (d := d) (pr := pr) k hk ok ar hg hc hp wb) (Nat.le_refl _) (Nat.le_of_ble_eq_true rfl) (Nat.le_of_ble_eq_true rfl) (fun v h' n' hp => ?_) (fun x h' n' hp => by cases hp.1)
  obtain ⟨hv, hn2, hh2⟩ := hp
  cases hv
  subst hh2
  replace hn2 := hn2.symm
  subst hn2
  rw [hB]
  refine et_lstore_n (i := 3) (lv' := [_, _, _, _, _, _, _]) d_C_weighNode_15 rfl (by decide) rfl rfl ?_
  refine et_lload_n (i := 3) d_C_weighNode_16 rfl rfl ?_
  refine et_ldc2 d_C_weighNode_17 kl_C_65 ?_
  rw [lN_kM]
  refine et_lcmp d_C_weighNode_20 ?_
  refine et_if_gt (tgt := 35) d_C_weighNode_21 (by decide) (fun q => ?_) (fun q => ?_)
  · have q2 : kM < min B.1 (kM + 1) := (pk_lLT (by omega) (by omega)).mp ((lg_cmp_gt _ _).mp q)
    refine et_iconst (v := 0) d_C_weighNode_35 (by decide) ?_
    exact et_zret d_C_weighNode_36 rfl rfl (Nat.le_refl _) (Nat.le_refl _) ⟨rfl, fun _ _ _ => rfl, Or.inl ⟨rfl, rfl, fun z => by omega⟩⟩
  · have q2 : B.1 ≤ kM := by
      have : ¬ kM < min B.1 (kM + 1) := fun z => q ((lg_cmp_gt _ _).mpr ((pk_lLT (by omega) (by omega)).mpr z))
      omega
    rw [Nat.min_eq_left (show B.1 ≤ kM + 1 by omega)]
    refine et_lload_n (i := 3) d_C_weighNode_24 rfl rfl ?_
    refine et_aload_n (i := 0) d_C_weighNode_25 rfl rfl ?_
    refine et_getf (ci := 0) 1 d_C_weighNode_26 h17 rfl in_C (by decide) fl_C_15 rfl ?_
    refine et_iload_n (i := 2) d_C_weighNode_29 rfl rfl ?_
    refine et_laln d_C_weighNode_30 h19 (by omega) (by first | decide | omega) ?_
    rw [(hcl _ o1).1]
    refine et_lcmp d_C_weighNode_31 ?_
    refine et_if_le (tgt := 37) d_C_weighNode_32 (by decide) (fun p => ?_) (fun p => ?_)
    · have p2 : B.1 ≤ (w (gH x.1 k)).1 := (pk_lLE (by omega) (by omega)).mp ((lg_cmp_le _ _).mp p)
      refine et_aload_n (i := 0) d_C_weighNode_37 rfl rfl ?_
      refine et_iload_n (i := 1) d_C_weighNode_38 rfl rfl ?_
      refine et_invV mV_C_lengthThrough (As := [_]) rfl d_C_weighNode_39 lk_C_67 len_C_lengthThrough h17 rfl (Nat.le_of_ble_eq_true rfl) (c_C_lengthThrough (d := d + 1) pr k hk ok hg hc) (Nat.le_refl _) (Nat.le_of_ble_eq_true rfl) (Nat.le_of_ble_eq_true rfl) (fun v h' n' hp => ?_) (fun x h' n' hp => by cases hp.1)
      obtain ⟨hv, hn2, hh2⟩ := hp
      cases hv
      subst hh2
      replace hn2 := hn2.symm
      subst hn2
      rw [hB]
      refine et_lstore (lv' := [_, _, _, _, _, _, _]) d_C_weighNode_42 (by decide) rfl rfl ?_
      refine et_lload_n (i := 3) d_C_weighNode_44 rfl rfl ?_
      refine et_aload_n (i := 0) d_C_weighNode_45 rfl rfl ?_
      refine et_getf (ci := 0) 1 d_C_weighNode_46 h17 rfl in_C (by decide) fl_C_15 rfl ?_
      refine et_iload_n (i := 2) d_C_weighNode_49 rfl rfl ?_
      refine et_laln d_C_weighNode_50 h19 (by omega) (by first | decide | omega) ?_
      rw [(hcl _ o1).1]
      refine et_lcmp d_C_weighNode_51 ?_
      refine et_if_ne (tgt := 69) d_C_weighNode_52 (by decide) (fun s => ?_) (fun s => ?_)
      · have s2 : B.1 ≠ (w (gH x.1 k)).1 := fun z => s ((lg_cmp_eq _ _).mpr (by rw [z]))
        refine et_aload_n (i := 0) d_C_weighNode_69 rfl rfl ?_
        refine et_getf (ci := 0) 1 d_C_weighNode_70 h17 rfl in_C (by decide) fl_C_15 rfl ?_
        refine et_iload_n (i := 2) d_C_weighNode_73 rfl rfl ?_
        refine et_lload_n (i := 3) d_C_weighNode_74 rfl rfl ?_
        refine et_lasn d_C_weighNode_75 h19 (by omega) (by first | decide | omega) ?_
        refine et_aload_n (i := 0) d_C_weighNode_76 rfl rfl ?_
        refine et_getf (ci := 0) 2 d_C_weighNode_77 ((va_ne (by decide)).trans h17) rfl in_C (by decide) fl_C_19 rfl ?_
        refine et_iload_n (i := 2) d_C_weighNode_80 rfl rfl ?_
        refine et_lload d_C_weighNode_81 rfl ?_
        refine et_lasn d_C_weighNode_83 ((va_ne (by decide)).trans h20) (by omega) (by first | decide | omega) ?_
        refine et_iconst (v := 1) d_C_weighNode_84 (by decide) ?_
        refine et_zret d_C_weighNode_85 rfl rfl (Nat.le_refl _) (Nat.le_refl _) ⟨rfl, fun q z1 z2 => (va_ne z2).trans (va_ne z1), Or.inr ⟨rfl, q2, fun z => by rw [pdef] at z; omega, (va_ne (by decide)).trans ((va_ne (by decide)).trans h17), (va_ne (by decide)).trans ((va_ne (by decide)).trans h18), _, _, (va_ne (by decide)).trans va_eq, va_eq, fun c hc => ?_⟩⟩
        by_cases e : c = gH x.1 k
        · rw [e, et_ls, et_ls, gUp_s]; exact ⟨rfl, rfl⟩
        · rw [et_ln e, et_ln e, gUp_n _ _ e]; exact hcl c hc
      · have s2 : B.1 = (w (gH x.1 k)).1 := (pk_lEQ (by omega) (by omega)).mp ((lg_cmp_eq _ _).mp s)
        refine et_lload d_C_weighNode_55 rfl ?_
        refine et_aload_n (i := 0) d_C_weighNode_57 rfl rfl ?_
        refine et_getf (ci := 0) 2 d_C_weighNode_58 h17 rfl in_C (by decide) fl_C_19 rfl ?_
        refine et_iload_n (i := 2) d_C_weighNode_61 rfl rfl ?_
        refine et_laln d_C_weighNode_62 h20 (by omega) (by first | decide | omega) ?_
        rw [(hcl _ o1).2]
        refine et_lcmp d_C_weighNode_63 ?_
        refine et_if_lt (tgt := 69) d_C_weighNode_64 (by decide) (fun u => ?_) (fun u => ?_)
        · have u2 : B.2 < (w (gH x.1 k)).2 := (pk_lLT (by omega) (by omega)).mp ((lg_cmp_lt _ _).mp u)
          refine et_aload_n (i := 0) d_C_weighNode_69 rfl rfl ?_
          refine et_getf (ci := 0) 1 d_C_weighNode_70 h17 rfl in_C (by decide) fl_C_15 rfl ?_
          refine et_iload_n (i := 2) d_C_weighNode_73 rfl rfl ?_
          refine et_lload_n (i := 3) d_C_weighNode_74 rfl rfl ?_
          refine et_lasn d_C_weighNode_75 h19 (by omega) (by first | decide | omega) ?_
          refine et_aload_n (i := 0) d_C_weighNode_76 rfl rfl ?_
          refine et_getf (ci := 0) 2 d_C_weighNode_77 ((va_ne (by decide)).trans h17) rfl in_C (by decide) fl_C_19 rfl ?_
          refine et_iload_n (i := 2) d_C_weighNode_80 rfl rfl ?_
          refine et_lload d_C_weighNode_81 rfl ?_
          refine et_lasn d_C_weighNode_83 ((va_ne (by decide)).trans h20) (by omega) (by first | decide | omega) ?_
          refine et_iconst (v := 1) d_C_weighNode_84 (by decide) ?_
          refine et_zret d_C_weighNode_85 rfl rfl (Nat.le_refl _) (Nat.le_refl _) ⟨rfl, fun q z1 z2 => (va_ne z2).trans (va_ne z1), Or.inr ⟨rfl, q2, fun z => by rw [pdef] at z; omega, (va_ne (by decide)).trans ((va_ne (by decide)).trans h17), (va_ne (by decide)).trans ((va_ne (by decide)).trans h18), _, _, (va_ne (by decide)).trans va_eq, va_eq, fun c hc => ?_⟩⟩
          by_cases e : c = gH x.1 k
          · rw [e, et_ls, et_ls, gUp_s]; exact ⟨rfl, rfl⟩
          · rw [et_ln e, et_ln e, gUp_n _ _ e]; exact hcl c hc
        · have u2 : (w (gH x.1 k)).2 ≤ B.2 := Nat.le_of_not_lt fun z => u ((lg_cmp_lt _ _).mpr ((pk_lLT (by omega) (by omega)).mpr z))
          refine et_iconst (v := 0) d_C_weighNode_67 (by decide) ?_
          exact et_zret d_C_weighNode_68 rfl rfl (Nat.le_refl _) (Nat.le_refl _) ⟨rfl, fun _ _ _ => rfl, Or.inl ⟨rfl, rfl, fun _ => pdef.mpr (Or.inr ⟨s2.symm, u2⟩)⟩⟩
    · have p2 : (w (gH x.1 k)).1 < B.1 := Nat.lt_of_not_le fun z => p ((lg_cmp_le _ _).mpr ((pk_lLE (by omega) (by omega)).mpr z))
      refine et_iconst (v := 0) d_C_weighNode_35 (by decide) ?_
      exact et_zret d_C_weighNode_36 rfl rfl (Nat.le_refl _) (Nat.le_refl _) ⟨rfl, fun _ _ _ => rfl, Or.inl ⟨rfl, rfl, fun _ => pdef.mpr (Or.inl p2)⟩⟩
set_option maxHeartbeats 4000000 in
set_option maxRecDepth 100000 in
theorem c_C_weigh {sc : et_X} {h : Nat → et_MC} {d n : Nat} {x : gx} {p18 : Nat → Int32} {pr : Int32 → Nat} {v : Nat → tri} (ok : gOk 40 x.1) (ar : gAr x.1) (hg : et_gh x h) (h17 : h 17 = .inr (0, [.ref 18, .ref 19, .ref 20, .ref 21, .ref 3, .ref 62])) (h18 : h 18 = .inl (0, 127, .inl p18)) {f19 f20 : Nat → Int64} (h19 : h 19 = .inl (1, 40, .inr (.inl f19))) (h20 : h 20 = .inl (1, 40, .inr (.inl f20))) (hp : prOk p18 pr) (hv : bst x.1 pr v) : et_Cn sc Y_C_weigh (d + 3) [.ref 17] h n 0 0 (fun r h' n' => r = .inl none ∧ n' = n ∧ (∀ q, q ≠ 19 → q ≠ 20 → h' q = h q) ∧ et_CH p18 (v2 v) (gC x.1) h') := by
  refine et_Cn.of 3 rfl rfl (by decide) mV_C_weigh.1 ?_
  have hp1 : ∀ n, n < gN x.1 → 1 ≤ pr (gS x.1 n) := fun n hn => (hp _ (gAr_pt ar hn)).2.1
  have ok1 := ok.1
  have ok2 := ok.2.1
  obtain ⟨a4, a5, a6, a7, a8, a9, h3, -⟩ := id hg
  have hkM : kM = 4611686018427387904 := rfl
  have inner : ∀ (p : Nat), (∀ (b : Bool) (w : Nat → pai) (hh : Nat → et_MC) (o3 : Option Value), wgI x.1 pr v p (gN x.1) b w → et_CH p18 w (gC x.1) hh → (∀ q, q ≠ 19 → q ≠ 20 → hh q = h q) → et_M sc Y_C_weigh (d + 3) 0 0 (fun r h' n' => r = .inl none ∧ n' = n ∧ (∀ q, q ≠ 19 → q ≠ 20 → h' q = h q) ∧ et_CH p18 (v2 v) (gC x.1) h') 68 [some (.ref 17), some (.int (bI b)), some (.int (nI p)), o3] [] hh n 0 0) → ∀ (t i : Nat) (b : Bool) (w : Nat → pai) (hh : Nat → et_MC), i + t = gN x.1 → wgI x.1 pr v p i b w → et_CH p18 w (gC x.1) hh → (∀ q, q ≠ 19 → q ≠ 20 → hh q = h q) → et_M sc Y_C_weigh (d + 3) 0 0 (fun r h' n' => r = .inl none ∧ n' = n ∧ (∀ q, q ≠ 19 → q ≠ 20 → h' q = h q) ∧ et_CH p18 (v2 v) (gC x.1) h') 41 [some (.ref 17), some (.int (bI b)), some (.int (nI p)), some (.int (nI i))] [] hh n 0 0 := by
    intro p K t
    induction t with
    | zero =>
      intro i b w hh hi I hc fr
      obtain rfl : i = gN x.1 := by omega
      have k17 := (fr 17 (by decide) (by decide)).trans h17
      have k3 := (fr 3 (by decide) (by decide)).trans h3
      refine et_iload_n (i := 3) d_C_weigh_41 rfl rfl ?_
      refine et_aload_n (i := 0) d_C_weigh_42 rfl rfl ?_
      refine et_getf (ci := 0) 4 d_C_weigh_43 k17 rfl in_C (by decide) fl_C_30 rfl ?_
      refine et_getf (ci := 1) 4 d_C_weigh_46 k3 rfl in_G (by decide) fl_C_51 rfl ?_
      refine et_icmp_ge (tgt := 68) d_C_weigh_49 (by decide) (fun _ => ?_) (fun q => absurd (nI_le (Nat.le_refl _) (by omega)) q)
      exact K b w hh _ I hc fr
    | succ t ih =>
      intro i b w hh hi I hc fr
      have k17 := (fr 17 (by decide) (by decide)).trans h17
      have k3 := (fr 3 (by decide) (by decide)).trans h3
      have gg := hg.same (fun k a b => fr k (by omega) (by omega))
      have wb : wBd w (gC x.1) := fun c hc => ⟨by rcases (I.2.1 c hc).1 with z | z; omega; rw [z]; exact Nat.le_refl _, (I.2.1 c hc).2⟩
      refine et_iload_n (i := 3) d_C_weigh_41 rfl rfl ?_
      refine et_aload_n (i := 0) d_C_weigh_42 rfl rfl ?_
      refine et_getf (ci := 0) 4 d_C_weigh_43 k17 rfl in_C (by decide) fl_C_30 rfl ?_
      refine et_getf (ci := 1) 4 d_C_weigh_46 k3 rfl in_G (by decide) fl_C_51 rfl ?_
      refine et_icmp_ge (tgt := 68) d_C_weigh_49 (by decide) (fun q => absurd q (nI_ge (by omega) (by omega))) (fun _ => ?_)
      refine et_aload_n (i := 0) d_C_weigh_52 rfl rfl ?_
      refine et_iload_n (i := 3) d_C_weigh_53 rfl rfl ?_
      refine et_invV mV_C_weighNode (As := [_]) rfl d_C_weigh_54 lk_C_54 len_C_weighNode k17 rfl (Nat.le_of_ble_eq_true rfl) (c_C_weighNode (d := d) (pr := pr) i (by omega) ok ar gg hc hp wb) (Nat.le_refl _) (Nat.le_of_ble_eq_true rfl) (Nat.le_of_ble_eq_true rfl) (fun v h2 n' hp => ?_) (fun x h' n' hp => by obtain ⟨-, -, ⟨e, -⟩ | ⟨e, -⟩⟩ := hp <;> cases e)
      obtain ⟨hn2, fr2, hres⟩ := hp
      replace hn2 := hn2.symm
      subst hn2
      rcases hres with ⟨hv', hh2, hkeep⟩ | ⟨hv', hk, hne, hc2⟩
      · cases hv'
        subst hh2
        refine et_if_eq (tgt := 62) d_C_weigh_57 (by decide) (fun _ => ?_) (fun q => absurd rfl q)
        refine et_iinc (lv' := [_, _, _, _]) d_C_weigh_62 rfl (v := nI (i + 1)) (nI_1 i) (by decide) rfl rfl ?_
        refine et_goto (tgt := 41) d_C_weigh_65 (by decide) ?_
        exact ih (i + 1) b w _ (by omega) (wg_keep ok hp1 I (by omega) hkeep) hc fr
      · cases hv'
        refine et_if_eq (tgt := 62) d_C_weigh_57 (by decide) (fun q => absurd q (by decide)) (fun _ => ?_)
        refine et_iconst (v := 1) d_C_weigh_60 (by decide) ?_
        refine et_istore_n (i := 1) (lv' := [_, _, _, _]) d_C_weigh_61 rfl (by decide) rfl rfl ?_
        refine et_iinc (lv' := [_, _, _, _]) d_C_weigh_62 rfl (v := nI (i + 1)) (nI_1 i) (by decide) rfl rfl ?_
        refine et_goto (tgt := 41) d_C_weigh_65 (by decide) ?_
        exact ih (i + 1) true _ _ (by omega) (wg_put ok hp1 hv I (by omega) hk (fun l hl => (wb.a hl).2) hne) hc2 (fun q z1 z2 => (fr2 q z1 z2).trans (fr q z1 z2))
  have outer : ∀ (t p : Nat) (b : Bool) (w : Nat → pai) (hh : Nat → et_MC) (o3 : Option Value), p + t = gC x.1 → wgI x.1 pr v p 0 false w → (b = false → ∀ c, c < gC x.1 → w c = v2 v c) → et_CH p18 w (gC x.1) hh → (∀ q, q ≠ 19 → q ≠ 20 → hh q = h q) → et_M sc Y_C_weigh (d + 3) 0 0 (fun r h' n' => r = .inl none ∧ n' = n ∧ (∀ q, q ≠ 19 → q ≠ 20 → h' q = h q) ∧ et_CH p18 (v2 v) (gC x.1) h') 22 [some (.ref 17), some (.int (bI b)), some (.int (nI p)), none] [] hh n 0 0 := by
    intro t
    induction t with
    | zero =>
      intro p b w hh o3 hpp I hb hc fr
      obtain rfl : p = gC x.1 := by omega
      have k17 := (fr 17 (by decide) (by decide)).trans h17
      have k3 := (fr 3 (by decide) (by decide)).trans h3
      have hw := wg_end2 hv I
      obtain ⟨q1, q2, c19, c20, q3, q4, q5⟩ := hc
      refine et_iload_n (i := 2) d_C_weigh_22 rfl rfl ?_
      refine et_aload_n (i := 0) d_C_weigh_23 rfl rfl ?_
      refine et_getf (ci := 0) 4 d_C_weigh_24 k17 rfl in_C (by decide) fl_C_30 rfl ?_
      refine et_getf (ci := 1) 5 d_C_weigh_27 k3 rfl in_G (by decide) fl_C_45 rfl ?_
      refine et_icmp_ge (tgt := 74) d_C_weigh_30 (by decide) (fun _ => ?_) (fun q => absurd (nI_le (Nat.le_refl _) (by omega)) q)
      exact et_vret d_C_weigh_74 rfl (Nat.le_refl _) (Nat.le_refl _) ⟨rfl, rfl, fr, q1, q2, c19, c20, q3, q4, fun c hc => by rw [← hw c hc]; exact q5 c hc⟩
    | succ t ih =>
      intro p b w hh o3 hpp I hb hc fr
      have k17 := (fr 17 (by decide) (by decide)).trans h17
      have k3 := (fr 3 (by decide) (by decide)).trans h3
      refine et_iload_n (i := 2) d_C_weigh_22 rfl rfl ?_
      refine et_aload_n (i := 0) d_C_weigh_23 rfl rfl ?_
      refine et_getf (ci := 0) 4 d_C_weigh_24 k17 rfl in_C (by decide) fl_C_30 rfl ?_
      refine et_getf (ci := 1) 5 d_C_weigh_27 k3 rfl in_G (by decide) fl_C_45 rfl ?_
      refine et_icmp_ge (tgt := 74) d_C_weigh_30 (by decide) (fun q => absurd q (nI_ge (by omega) (by omega))) (fun _ => ?_)
      refine et_iload_n (i := 1) d_C_weigh_33 rfl rfl ?_
      cases b with
      | false =>
        have hw := hb rfl
        obtain ⟨q1, q2, c19, c20, q3, q4, q5⟩ := hc
        refine et_if_eq (tgt := 74) d_C_weigh_34 (by decide) (fun _ => ?_) (fun q => absurd rfl q)
        exact et_vret d_C_weigh_74 rfl (Nat.le_refl _) (Nat.le_refl _) ⟨rfl, rfl, fr, q1, q2, c19, c20, q3, q4, fun c hc => by rw [← hw c hc]; exact q5 c hc⟩
      | true =>
        refine et_if_eq (tgt := 74) d_C_weigh_34 (by decide) (fun q => absurd q (by decide)) (fun _ => ?_)
        refine et_iconst (v := bI false) d_C_weigh_37 (by decide) ?_
        refine et_istore_n (i := 1) (lv' := [_, _, _, _]) d_C_weigh_38 rfl (by decide) rfl rfl ?_
        refine et_iconst (v := nI 0) d_C_weigh_39 (by decide) ?_
        refine et_istore_n (i := 3) (lv' := [_, _, _, _]) d_C_weigh_40 rfl (by decide) rfl rfl ?_
        refine inner p (fun b w hh o3 I hc fr => ?_) (gN x.1) 0 false w hh (by omega) I hc fr
        refine et_iinc (lv' := [_, _, _, _]) d_C_weigh_68 rfl (v := nI (p + 1)) (nI_1 p) (by decide) rfl rfl ?_
        refine et_goto (tgt := 22) d_C_weigh_71 (by decide) ?_
        exact et_weak et_w4a (ih (p + 1) b w hh none (by omega) (wg_next hv ok I) (fun z => by subst z; exact wg_end1 ok hp1 hv I) hc fr)
  refine et_aload_n (i := 0) d_C_weigh_0 rfl rfl ?_
  refine et_getf (ci := 0) 1 d_C_weigh_1 h17 rfl in_C (by decide) fl_C_15 rfl ?_
  refine et_ldc2 d_C_weigh_4 kl_C_40 ?_
  rw [lN_kM1]
  refine et_invS mS_A_fill_JJ (As := [_, _]) rfl d_C_weigh_7 lk_C_42 len_A_fill_JJ (Nat.le_of_ble_eq_true rfl) (c_A_fillJ (d := d + 2) (N := 40) (by decide) h19) (Nat.le_refl _) (Nat.le_of_ble_eq_true rfl) (Nat.le_of_ble_eq_true rfl) (fun v h' n' hp => ?_) (fun x h' n' hp => by cases hp.1)
  obtain ⟨hv1, hn2, g19, hh2, hg19⟩ := hp
  cases hv1
  subst hh2
  replace hn2 := hn2.symm
  subst hn2
  refine et_aload_n (i := 0) d_C_weigh_10 rfl rfl ?_
  refine et_getf (ci := 0) 2 d_C_weigh_11 ((va_ne (by decide)).trans h17) rfl in_C (by decide) fl_C_19 rfl ?_
  refine et_lconst (v := lN 0) d_C_weigh_14 (by decide) ?_
  refine et_invS mS_A_fill_JJ (As := [_, _]) rfl d_C_weigh_15 lk_C_42 len_A_fill_JJ (Nat.le_of_ble_eq_true rfl) (c_A_fillJ (d := d + 2) (N := 40) (by decide) ((va_ne (by decide)).trans h20)) (Nat.le_refl _) (Nat.le_of_ble_eq_true rfl) (Nat.le_of_ble_eq_true rfl) (fun v h' n' hp => ?_) (fun x h' n' hp => by cases hp.1)
  obtain ⟨hv1, hn2, g20, hh2, hg20⟩ := hp
  cases hv1
  subst hh2
  replace hn2 := hn2.symm
  subst hn2
  refine et_iconst (v := bI true) d_C_weigh_18 (by decide) ?_
  refine et_istore_n (i := 1) (lv' := [_, _, _, _]) d_C_weigh_19 rfl (by decide) rfl rfl ?_
  refine et_iconst (v := nI 0) d_C_weigh_20 (by decide) ?_
  refine et_istore_n (i := 2) (lv' := [_, _, _, _]) d_C_weigh_21 rfl (by decide) rfl rfl ?_
  exact outer (gC x.1) 0 true (fun _ => (kM + 1, 0)) _ none (by omega) (wg_0 hv false) (fun z => by cases z) ⟨(va_ne (by decide)).trans ((va_ne (by decide)).trans h17), (va_ne (by decide)).trans ((va_ne (by decide)).trans h18), g19, g20, (va_ne (by decide)).trans va_eq, va_eq, fun c hc => ⟨hg19 c (by omega), hg20 c (by omega)⟩⟩ (fun q z1 z2 => (va_ne z2).trans (va_ne z1))
