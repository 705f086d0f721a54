set_option maxHeartbeats 4000000 in
set_option maxRecDepth 100000 in
theorem c_M_rule {sc : et_X} {h : Nat → et_MC} {d n : Nat} {f : Nat → Int32} {sz : Nat} {th wp : Int32} {g : gr} {rc : Nat} {ru : Nat → prul} {sd szs : Nat → Int32} (hsz : sz ≤ 60) (hM : et_ME th f sz wp (nI rc) g h) (hR : et_MR rc ru sd szs) (h66 : h 66 = .inl (0, 84, .inl sd)) (h67 : h 67 = .inl (0, 12, .inl szs)) : et_Cn sc Y_M_rule (d + 4) [.ref 64] h n 0 0 (fun r h' n' => n' = n ∧ (∀ k, (k < 64 ∨ 67 < k) → h' k = h k) ∧ (((fwN f true true sz 0 1 0).1 ≠ 0 ∧ r = .inl (some (.int 0)) ∧ h' 66 = h 66 ∧ h' 67 = h 67 ∧ et_ME 1 f sz (eI (fwN f true true sz 0 1 0).1) (nI rc) g h') ∨ ((fwN f true true sz 0 1 0).1 = 0 ∧ rc = 6 ∧ r = .inl (some (.int 0)) ∧ h' 66 = h 66 ∧ h' 67 = h 67 ∧ et_ME 2 f sz wp (nI rc) g h') ∨ ((fwN f true true sz 0 1 0).1 = 0 ∧ rc < 6 ∧ r = .inl (some (.int (nI (rc + 1)))) ∧ et_ME 0 f 0 wp (nI (rc + 1)) g h' ∧ ∃ e sd' szs', (fwN f true true sz 0 1 0).2 = e + 1 ∧ rOk f e sz ∧ h' 66 = .inl (0, 84, .inl sd') ∧ h' 67 = .inl (0, 12, .inl szs') ∧ ∀ row, (∀ i, i < sz → row i = f i) → et_MR (rc + 1) (gUp ru rc (row, e, sz)) sd' szs'))) := by
  refine et_Cn.of 2 rfl rfl (by decide) mV_M_rule.1 ?_
  obtain ⟨⟨a_, en, al, se, u, rs, dc, ds, h64⟩, h65, hg, ⟨b73, h73⟩, ⟨b74, h74⟩, ⟨b75, h75⟩⟩ := hM
  have hrc := hR.1
  refine et_aload_n (i := 0) d_M_rule_0 rfl rfl ?_
  refine et_iconst (v := 0) d_M_rule_1 (by decide) ?_
  refine et_putf (ci := 7) 0 d_M_rule_2 h64 rfl in_M ty_M nm_M (by decide) fl_M_72 rfl rfl (fun _ => rfl) (fun _ => rfl) (Nat.le_of_ble_eq_true rfl) (fs' := [_, _, _, _, _, _, _, _, _, _, _, _, _, _, _, _, _, _, _, _, _, _, _, _, _, _, _, _, _, _, _, _, _]) rfl ?_
  refine et_aload_n (i := 0) d_M_rule_5 rfl rfl ?_
  refine et_bipush (v := 7) d_M_rule_6 (by decide) ?_
  refine et_iconst (v := 1) d_M_rule_8 (by decide) ?_
  refine et_invV mV_M_readBoth (As := [_, _]) rfl d_M_rule_9 lk_M_109 len_M_readBoth rfl rfl (Nat.le_of_ble_eq_true rfl) (c_M_readBoth (d := d) true hsz va_eq h65) (Nat.le_refl _) (Nat.le_of_ble_eq_true rfl) (Nat.le_of_ble_eq_true rfl) (fun v h' n' hp => ?_) (fun x h' n' hp => by obtain ⟨-, -, a', en', se', ⟨-, e, -⟩ | ⟨-, e, -⟩⟩ := hp <;> cases e)
  obtain ⟨hn2, fr0, a1, en1, se1, hres⟩ := hp
  replace hn2 := hn2.symm
  subst hn2
  have fr : ∀ k, k ≠ 64 → h' k = h k := fun k hk => (fr0 k hk).trans (va_ne hk)
  have j65 := (fr 65 (by decide)).trans h65
  have j66 := (fr 66 (by decide)).trans h66
  have j67 := (fr 67 (by decide)).trans h67
  have jg := hg.same (fun k a b => fr k (by omega))
  have j73 := (fr 73 (by decide)).trans h73
  have j74 := (fr 74 (by decide)).trans h74
  have j75 := (fr 75 (by decide)).trans h75
  rcases hres with ⟨q0, hv, j64⟩ | ⟨q0, hv, j64⟩
  · cases hv
    obtain ⟨e, hq2, rok⟩ := rOk_of q0
    obtain ⟨⟨m1, hw1⟩, ⟨m2, hw2⟩, r3, r4, r5, r6⟩ := id rok
    have hq3 : nI (fwN f true true sz 0 1 0).2 = nI (e + 1) := by rw [hq2]
    rw [hq3]
    refine et_istore_n (i := 1) (lv' := [_, _, _]) d_M_rule_12 rfl (by decide) rfl rfl ?_
    refine et_iload_n (i := 1) d_M_rule_13 rfl rfl ?_
    refine et_if_lt (tgt := 26) d_M_rule_14 (by decide) (fun q => absurd q (nI_n0 (by omega))) (fun _ => ?_)
    refine et_aload_n (i := 0) d_M_rule_17 rfl rfl ?_
    refine et_getf (ci := 7) 8 d_M_rule_18 j64 rfl in_M (by decide) fl_M_113 rfl ?_
    refine et_bipush (v := nI 6) d_M_rule_21 (by decide) ?_
    refine et_icmp_ne (tgt := 40) d_M_rule_23 (by decide) (fun q => ?_) (fun q => ?_)
    · have hlt : rc < 6 := by
        have : rc ≠ 6 := fun z => q (by rw [z])
        omega
      have hs : ∀ (s : Nat → Int32), ∀ (t k : Nat) (hh : Nat → et_MC), (s = upd (upd szs (2 * rc) (nI e)) (2 * rc + 1) (nI (sz - (e + 1)))) → k + t = sz → e + 1 ≤ k → ∀ sd2 : Nat → Int32, hh 64 = et_Mo 0 (nI sz) a1 wp en1 al se1 (nI rc) (nI (gN g)) (nI (gC g)) (bI u) rs dc ds → hh 66 = .inl (0, 84, .inl sd2) → hh 67 = .inl (0, 12, .inl s) → (∀ k, k ≠ 64 → k ≠ 66 → k ≠ 67 → hh k = h k) → (∀ j, j < 14 * rc → sd2 j = sd j) → (∀ j, j < e → sd2 (14 * rc + j) = f j) → (∀ j, j < k - (e + 1) → sd2 (14 * rc + 7 + j) = f (e + 1 + j)) → et_M sc Y_M_rule (d + 4) 0 0 (fun r h' n' => n' = n ∧ (∀ k, (k < 64 ∨ 67 < k) → h' k = h k) ∧ (((fwN f true true sz 0 1 0).1 ≠ 0 ∧ r = .inl (some (.int 0)) ∧ h' 66 = h 66 ∧ h' 67 = h 67 ∧ et_ME 1 f sz (eI (fwN f true true sz 0 1 0).1) (nI rc) g h') ∨ ((fwN f true true sz 0 1 0).1 = 0 ∧ rc = 6 ∧ r = .inl (some (.int 0)) ∧ h' 66 = h 66 ∧ h' 67 = h 67 ∧ et_ME 2 f sz wp (nI rc) g h') ∨ ((fwN f true true sz 0 1 0).1 = 0 ∧ rc < 6 ∧ r = .inl (some (.int (nI (rc + 1)))) ∧ et_ME 0 f 0 wp (nI (rc + 1)) g h' ∧ ∃ e sd' szs', (fwN f true true sz 0 1 0).2 = e + 1 ∧ rOk f e sz ∧ h' 66 = .inl (0, 84, .inl sd') ∧ h' 67 = .inl (0, 12, .inl szs') ∧ ∀ row, (∀ i, i < sz → row i = f i) → et_MR (rc + 1) (gUp ru rc (row, e, sz)) sd' szs'))) 110 [some (.ref 64), some (.int (nI (e + 1))), some (.int (nI k))] [] hh n 0 0 := by
        intro s t
        induction t with
        | zero =>
          intro k hh hs hk hek sd2 k64 k66 k67 fr2 p1 p2 p3
          obtain rfl : k = sz := by omega
          refine et_iload_n (i := 2) d_M_rule_110 rfl rfl ?_
          refine et_aload_n (i := 0) d_M_rule_111 rfl rfl ?_
          refine et_getf (ci := 7) 2 d_M_rule_112 k64 rfl in_M (by decide) fl_M_79 rfl ?_
          refine et_icmp_ge (tgt := 149) d_M_rule_115 (by decide) (fun _ => ?_) (fun q => absurd (nI_le (Nat.le_refl _) (by omega)) q)
          refine et_aload_n (i := 0) d_M_rule_149 rfl rfl ?_
          refine et_dup d_M_rule_150 rfl ?_
          refine et_getf (ci := 7) 8 d_M_rule_151 k64 rfl in_M (by decide) fl_M_113 rfl ?_
          refine et_iconst (v := 1) d_M_rule_154 (by decide) ?_
          refine et_iadd d_M_rule_155 ?_
          rw [nI_1]
          refine et_putf (ci := 7) 8 d_M_rule_156 k64 rfl in_M ty_M nm_M (by decide) fl_M_113 rfl rfl (fun _ => rfl) (fun _ => rfl) (Nat.le_of_ble_eq_true rfl) (fs' := [_, _, _, _, _, _, _, _, _, _, _, _, _, _, _, _, _, _, _, _, _, _, _, _, _, _, _, _, _, _, _, _, _]) rfl ?_
          refine et_aload_n (i := 0) d_M_rule_159 rfl rfl ?_
          refine et_iconst (v := 0) d_M_rule_160 (by decide) ?_
          refine et_putf (ci := 7) 2 d_M_rule_161 rfl rfl in_M ty_M nm_M (by decide) fl_M_79 rfl rfl (fun _ => rfl) (fun _ => rfl) (Nat.le_of_ble_eq_true rfl) (fs' := [_, _, _, _, _, _, _, _, _, _, _, _, _, _, _, _, _, _, _, _, _, _, _, _, _, _, _, _, _, _, _, _, _]) rfl ?_
          refine et_aload_n (i := 0) d_M_rule_164 rfl rfl ?_
          refine et_getf (ci := 7) 8 d_M_rule_165 rfl rfl in_M (by decide) fl_M_113 rfl ?_
          refine et_iret d_M_rule_168 rfl (Nat.le_refl _) (Nat.le_refl _) ⟨rfl, fun q hq => by simp only [va_up, if_neg (show q ≠ 64 by omega)]; exact fr2 q (by omega) (by omega) (by omega), Or.inr (Or.inr ⟨q0, hlt, rfl, ⟨⟨_, _, _, _, _, _, _, _, va_eq⟩, (va_ne (by decide)).trans ((va_ne (by decide)).trans ((fr2 65 (by decide) (by decide) (by decide)).trans h65)), hg.same (fun k a b => (va_ne (by omega)).trans ((va_ne (by omega)).trans (fr2 k (by omega) (by omega) (by omega)))), ⟨_, (va_ne (by decide)).trans ((va_ne (by decide)).trans ((fr2 73 (by decide) (by decide) (by decide)).trans h73))⟩, ⟨_, (va_ne (by decide)).trans ((va_ne (by decide)).trans ((fr2 74 (by decide) (by decide) (by decide)).trans h74))⟩, _, (va_ne (by decide)).trans ((va_ne (by decide)).trans ((fr2 75 (by decide) (by decide) (by decide)).trans h75))⟩, e, sd2, s, hq2, rok, (va_ne (by decide)).trans ((va_ne (by decide)).trans k66), (va_ne (by decide)).trans ((va_ne (by decide)).trans k67), fun row hrow => ⟨by omega, fun r hr => ?_⟩⟩)⟩
          by_cases z : r = rc
          · subst z
            rw [gUp_s]
            refine ⟨rOk_same hrow rok, ?_, ?_, fun j hj => ?_, fun j hj => ?_⟩
            · show s (2 * r) = nI e
              rw [hs, pk_un (by omega), pk_us]
            · show s (2 * r + 1) = nI (k - (e + 1))
              rw [hs, pk_us]
            · have hj : j < e := hj
              show sd2 (14 * r + j) = row j
              rw [p2 j hj, hrow j (by omega)]
            · have hj : j < k - (e + 1) := hj
              show sd2 (14 * r + 7 + j) = row (e + 1 + j)
              rw [p3 j hj, hrow _ (by omega)]
          · rw [gUp_n _ _ z]
            obtain ⟨w1, w2, w3, w4, w5⟩ := hR.2 r (by omega)
            obtain ⟨-, -, v3, v4, v5, -⟩ := id w1
            refine ⟨w1, ?_, ?_, fun j hj => ?_, fun j hj => ?_⟩
            · rw [hs, pk_un (by omega), pk_un (by omega), w2]
            · rw [hs, pk_un (by omega), pk_un (by omega), w3]
            · rw [p1 _ (by omega), w4 j hj]
            · rw [p1 _ (by omega), w5 j hj]
        | succ t ih =>
          intro k hh hs hk hek sd2 k64 k66 k67 fr2 p1 p2 p3
          have k65 := (fr2 65 (by decide) (by decide) (by decide)).trans h65
          refine et_iload_n (i := 2) d_M_rule_110 rfl rfl ?_
          refine et_aload_n (i := 0) d_M_rule_111 rfl rfl ?_
          refine et_getf (ci := 7) 2 d_M_rule_112 k64 rfl in_M (by decide) fl_M_79 rfl ?_
          refine et_icmp_ge (tgt := 149) d_M_rule_115 (by decide) (fun q => absurd q (nI_ge (by omega) (by omega))) (fun _ => ?_)
          refine et_aload_n (i := 0) d_M_rule_118 rfl rfl ?_
          refine et_getf (ci := 7) 9 d_M_rule_119 k64 rfl in_M (by decide) fl_M_17 rfl ?_
          refine et_bipush (v := nI 14) d_M_rule_122 (by decide) ?_
          refine et_aload_n (i := 0) d_M_rule_124 rfl rfl ?_
          refine et_getf (ci := 7) 8 d_M_rule_125 k64 rfl in_M (by decide) fl_M_113 rfl ?_
          refine et_imul d_M_rule_128 ?_
          rw [nI_mul]
          refine et_bipush (v := nI 7) d_M_rule_129 (by decide) ?_
          refine et_iadd d_M_rule_131 ?_
          rw [nI_add]
          refine et_iload_n (i := 2) d_M_rule_132 rfl rfl ?_
          refine et_iadd d_M_rule_133 ?_
          rw [nI_add]
          refine et_iload_n (i := 1) d_M_rule_134 rfl rfl ?_
          refine et_isub d_M_rule_135 ?_
          rw [nI_sub (by omega)]
          refine et_aload_n (i := 0) d_M_rule_136 rfl rfl ?_
          refine et_getf (ci := 7) 1 d_M_rule_137 k64 rfl in_M (by decide) fl_M_7 rfl ?_
          refine et_iload_n (i := 2) d_M_rule_140 rfl rfl ?_
          refine et_ialn d_M_rule_141 k65 (by omega) (by first | decide | omega) ?_
          refine et_iasn d_M_rule_142 k66 (by omega) (by first | decide | omega) ?_
          refine et_iinc (lv' := [_, _, _]) d_M_rule_143 rfl (v := nI (k + 1)) (nI_1 k) (by decide) rfl rfl ?_
          refine et_goto (tgt := 110) d_M_rule_146 (by decide) ?_
          refine ih (k + 1) _ hs (by omega) (by omega) (upd sd2 (14 * rc + 7 + k - (e + 1)) (f k)) ((va_ne (by decide)).trans k64) va_eq ((va_ne (by decide)).trans k67) (fun q q1 q2 q3 => (va_ne q2).trans (fr2 q q1 q2 q3)) (fun j hj => ?_) (fun j hj => ?_) (fun j hj => ?_)
          · rw [pk_un (by omega)]; exact p1 j hj
          · rw [pk_un (by omega)]; exact p2 j hj
          · by_cases z : j = k - (e + 1)
            · rw [show 14 * rc + 7 + k - (e + 1) = 14 * rc + 7 + j by omega, pk_us, show e + 1 + j = k by omega]
            · rw [pk_un (by omega)]; exact p3 j (by omega)
      have fs : ∀ (s : Nat → Int32), (s = upd (upd szs (2 * rc) (nI e)) (2 * rc + 1) (nI (sz - (e + 1)))) → ∀ (t k : Nat) (hh : Nat → et_MC), k + t = e → ∀ sd2 : Nat → Int32, hh 64 = et_Mo 0 (nI sz) a1 wp en1 al se1 (nI rc) (nI (gN g)) (nI (gC g)) (bI u) rs dc ds → hh 66 = .inl (0, 84, .inl sd2) → hh 67 = .inl (0, 12, .inl s) → (∀ k, k ≠ 64 → k ≠ 66 → k ≠ 67 → hh k = h k) → (∀ j, j < 14 * rc → sd2 j = sd j) → (∀ j, j < k → sd2 (14 * rc + j) = f j) → et_M sc Y_M_rule (d + 4) 0 0 (fun r h' n' => n' = n ∧ (∀ k, (k < 64 ∨ 67 < k) → h' k = h k) ∧ (((fwN f true true sz 0 1 0).1 ≠ 0 ∧ r = .inl (some (.int 0)) ∧ h' 66 = h 66 ∧ h' 67 = h 67 ∧ et_ME 1 f sz (eI (fwN f true true sz 0 1 0).1) (nI rc) g h') ∨ ((fwN f true true sz 0 1 0).1 = 0 ∧ rc = 6 ∧ r = .inl (some (.int 0)) ∧ h' 66 = h 66 ∧ h' 67 = h 67 ∧ et_ME 2 f sz wp (nI rc) g h') ∨ ((fwN f true true sz 0 1 0).1 = 0 ∧ rc < 6 ∧ r = .inl (some (.int (nI (rc + 1)))) ∧ et_ME 0 f 0 wp (nI (rc + 1)) g h' ∧ ∃ e sd' szs', (fwN f true true sz 0 1 0).2 = e + 1 ∧ rOk f e sz ∧ h' 66 = .inl (0, 84, .inl sd') ∧ h' 67 = .inl (0, 12, .inl szs') ∧ ∀ row, (∀ i, i < sz → row i = f i) → et_MR (rc + 1) (gUp ru rc (row, e, sz)) sd' szs'))) 75 [some (.ref 64), some (.int (nI (e + 1))), some (.int (nI k))] [] hh n 0 0 := by
        intro s hs0 t
        induction t with
        | zero =>
          intro k hh hk sd2 k64 k66 k67 fr2 p1 p2
          obtain rfl : k = e := by omega
          refine et_iload_n (i := 2) d_M_rule_75 rfl rfl ?_
          refine et_iload_n (i := 1) d_M_rule_76 rfl rfl ?_
          refine et_iconst (v := 1) d_M_rule_77 (by decide) ?_
          refine et_isub d_M_rule_78 ?_
          rw [nI_pred]
          refine et_icmp_ge (tgt := 108) d_M_rule_79 (by decide) (fun _ => ?_) (fun q => absurd (nI_le (Nat.le_refl _) (by omega)) q)
          refine et_iload_n (i := 1) d_M_rule_108 rfl rfl ?_
          refine et_istore_n (i := 2) (lv' := [_, _, _]) d_M_rule_109 rfl (by decide) rfl rfl ?_
          exact hs s (sz - (k + 1)) (k + 1) hh hs0 (by omega) (Nat.le_refl _) sd2 k64 k66 k67 fr2 p1 p2 (fun j hj => by omega)
        | succ t ih =>
          intro k hh hk sd2 k64 k66 k67 fr2 p1 p2
          have k65 := (fr2 65 (by decide) (by decide) (by decide)).trans h65
          refine et_iload_n (i := 2) d_M_rule_75 rfl rfl ?_
          refine et_iload_n (i := 1) d_M_rule_76 rfl rfl ?_
          refine et_iconst (v := 1) d_M_rule_77 (by decide) ?_
          refine et_isub d_M_rule_78 ?_
          rw [nI_pred]
          refine et_icmp_ge (tgt := 108) d_M_rule_79 (by decide) (fun q => absurd q (nI_ge (by omega) (by omega))) (fun _ => ?_)
          refine et_aload_n (i := 0) d_M_rule_82 rfl rfl ?_
          refine et_getf (ci := 7) 9 d_M_rule_83 k64 rfl in_M (by decide) fl_M_17 rfl ?_
          refine et_bipush (v := nI 14) d_M_rule_86 (by decide) ?_
          refine et_aload_n (i := 0) d_M_rule_88 rfl rfl ?_
          refine et_getf (ci := 7) 8 d_M_rule_89 k64 rfl in_M (by decide) fl_M_113 rfl ?_
          refine et_imul d_M_rule_92 ?_
          rw [nI_mul]
          refine et_iload_n (i := 2) d_M_rule_93 rfl rfl ?_
          refine et_iadd d_M_rule_94 ?_
          rw [nI_add]
          refine et_aload_n (i := 0) d_M_rule_95 rfl rfl ?_
          refine et_getf (ci := 7) 1 d_M_rule_96 k64 rfl in_M (by decide) fl_M_7 rfl ?_
          refine et_iload_n (i := 2) d_M_rule_99 rfl rfl ?_
          refine et_ialn d_M_rule_100 k65 (by omega) (by first | decide | omega) ?_
          refine et_iasn d_M_rule_101 k66 (by omega) (by first | decide | omega) ?_
          refine et_iinc (lv' := [_, _, _]) d_M_rule_102 rfl (v := nI (k + 1)) (nI_1 k) (by decide) rfl rfl ?_
          refine et_goto (tgt := 75) d_M_rule_105 (by decide) ?_
          refine ih (k + 1) _ (by omega) (upd sd2 (14 * rc + k) (f k)) ((va_ne (by decide)).trans k64) va_eq ((va_ne (by decide)).trans k67) (fun q q1 q2 q3 => (va_ne q2).trans (fr2 q q1 q2 q3)) (fun j hj => ?_) (fun j hj => ?_)
          · rw [pk_un (by omega)]; exact p1 j hj
          · by_cases z : j = k
            · rw [z, pk_us]
            · rw [pk_un (by omega)]; exact p2 j (by omega)
      refine et_aload_n (i := 0) d_M_rule_40 rfl rfl ?_
      refine et_getf (ci := 7) 10 d_M_rule_41 j64 rfl in_M (by decide) fl_M_20 rfl ?_
      refine et_iconst (v := nI 2) d_M_rule_44 (by decide) ?_
      refine et_aload_n (i := 0) d_M_rule_45 rfl rfl ?_
      refine et_getf (ci := 7) 8 d_M_rule_46 j64 rfl in_M (by decide) fl_M_113 rfl ?_
      refine et_imul d_M_rule_49 ?_
      rw [nI_mul]
      refine et_iload_n (i := 1) d_M_rule_50 rfl rfl ?_
      refine et_iconst (v := 1) d_M_rule_51 (by decide) ?_
      refine et_isub d_M_rule_52 ?_
      rw [nI_pred]
      refine et_iasn d_M_rule_53 j67 (by omega) (by first | decide | omega) ?_
      refine et_aload_n (i := 0) d_M_rule_54 rfl rfl ?_
      refine et_getf (ci := 7) 10 d_M_rule_55 ((va_ne (by decide)).trans j64) rfl in_M (by decide) fl_M_20 rfl ?_
      refine et_iconst (v := nI 2) d_M_rule_58 (by decide) ?_
      refine et_aload_n (i := 0) d_M_rule_59 rfl rfl ?_
      refine et_getf (ci := 7) 8 d_M_rule_60 ((va_ne (by decide)).trans j64) rfl in_M (by decide) fl_M_113 rfl ?_
      refine et_imul d_M_rule_63 ?_
      rw [nI_mul]
      refine et_iconst (v := 1) d_M_rule_64 (by decide) ?_
      refine et_iadd d_M_rule_65 ?_
      rw [nI_1]
      refine et_aload_n (i := 0) d_M_rule_66 rfl rfl ?_
      refine et_getf (ci := 7) 2 d_M_rule_67 ((va_ne (by decide)).trans j64) rfl in_M (by decide) fl_M_79 rfl ?_
      refine et_iload_n (i := 1) d_M_rule_70 rfl rfl ?_
      refine et_isub d_M_rule_71 ?_
      rw [nI_sub (by omega)]
      refine et_iasn d_M_rule_72 va_eq (by omega) (by first | decide | omega) ?_
      refine et_iconst (v := nI 0) d_M_rule_73 (by decide) ?_
      refine et_istore_n (i := 2) (lv' := [_, _, _]) d_M_rule_74 rfl (by decide) rfl rfl ?_
      exact fs _ rfl e 0 _ (by omega) sd ((va_ne (by decide)).trans ((va_ne (by decide)).trans j64)) ((va_ne (by decide)).trans ((va_ne (by decide)).trans j66)) va_eq (fun k k1 k2 k3 => (va_ne k3).trans ((va_ne k3).trans (fr k k1))) (fun _ _ => rfl) (fun j hj => absurd hj (Nat.not_lt_zero _))
    · have q2 : rc = 6 := by
        have := (nI_eq (by omega) (by omega)).mp q
        exact this
      refine et_aload_n (i := 0) d_M_rule_26 rfl rfl ?_
      refine et_iload_n (i := 1) d_M_rule_27 rfl rfl ?_
      refine et_if_ge (tgt := 35) d_M_rule_28 (by decide) (fun _ => ?_) (fun q => absurd (nI_pos' (by omega)) q)
      refine et_iconst (v := 2) d_M_rule_35 (by decide) ?_
      refine et_invV mV_M_refuse (As := [_]) rfl d_M_rule_36 lk_M_116 len_M_refuse j64 rfl (Nat.le_of_ble_eq_true rfl) (c_M_refuse (d := d + 3) 2 j64) (Nat.le_refl _) (Nat.le_of_ble_eq_true rfl) (Nat.le_of_ble_eq_true rfl) (fun v h' n' hp => ?_) (fun x h' n' hp => by cases hp.1)
      obtain ⟨hv, hn2, hh2⟩ := hp
      cases hv
      subst hh2
      replace hn2 := hn2.symm
      subst hn2
      exact et_iret d_M_rule_39 rfl (Nat.le_refl _) (Nat.le_refl _) ⟨rfl, fun k hk => (va_ne (by omega)).trans (fr k (by omega)), Or.inr (Or.inl ⟨q0, q2, rfl, (va_ne (by decide)).trans (fr 66 (by decide)), (va_ne (by decide)).trans (fr 67 (by decide)), ⟨⟨_, _, _, _, _, _, _, _, va_eq⟩, (va_ne (by decide)).trans j65, jg.same (fun k a b => va_ne (by omega)), ⟨_, (va_ne (by decide)).trans j73⟩, ⟨_, (va_ne (by decide)).trans j74⟩, _, (va_ne (by decide)).trans j75⟩⟩)⟩
  · cases hv
    refine et_istore_n (i := 1) (lv' := [_, _, _]) d_M_rule_12 rfl (by decide) rfl rfl ?_
    refine et_iload_n (i := 1) d_M_rule_13 rfl rfl ?_
    refine et_if_lt (tgt := 26) d_M_rule_14 (by decide) (fun _ => ?_) (fun q => absurd (by decide) q)
    refine et_aload_n (i := 0) d_M_rule_26 rfl rfl ?_
    refine et_iload_n (i := 1) d_M_rule_27 rfl rfl ?_
    refine et_if_ge (tgt := 35) d_M_rule_28 (by decide) (fun q => absurd q (by decide)) (fun _ => ?_)
    refine et_iconst (v := 1) d_M_rule_31 (by decide) ?_
    refine et_goto (tgt := 36) d_M_rule_32 (by decide) ?_
    refine et_invV mV_M_refuse (As := [_]) rfl d_M_rule_36 lk_M_116 len_M_refuse j64 rfl (Nat.le_of_ble_eq_true rfl) (c_M_refuse (d := d + 3) 1 j64) (Nat.le_refl _) (Nat.le_of_ble_eq_true rfl) (Nat.le_of_ble_eq_true rfl) (fun v h' n' hp => ?_) (fun x h' n' hp => by cases hp.1)
    obtain ⟨hv, hn2, hh2⟩ := hp
    cases hv
    subst hh2
    replace hn2 := hn2.symm
    subst hn2
    exact et_iret d_M_rule_39 rfl (Nat.le_refl _) (Nat.le_refl _) ⟨rfl, fun k hk => (va_ne (by omega)).trans (fr k (by omega)), Or.inl ⟨q0, rfl, (va_ne (by decide)).trans (fr 66 (by decide)), (va_ne (by decide)).trans (fr 67 (by decide)), ⟨⟨_, _, _, _, _, _, _, _, va_eq⟩, (va_ne (by decide)).trans j65, jg.same (fun k a b => va_ne (by omega)), ⟨_, (va_ne (by decide)).trans j73⟩, ⟨_, (va_ne (by decide)).trans j74⟩, _, (va_ne (by decide)).trans j75⟩⟩⟩
