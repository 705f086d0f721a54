/-! ===== the model's best terms ===== -/
def et_BS (w : Nat → tri) (C : Nat) (c80 c81 : Nat → Int64) (b82 : Nat → Int32) : Prop := ∀ c, c < C → tOk (w c) ∧ c80 c = lN (w c).1 ∧ c81 c = lN (w c).2.1 ∧ ((w c).2.1 ≤ 60 → chs (fun j => b82 (60 * c + j)) (w c).2.1 ∧ num (fun j => b82 (60 * c + j)) (w c).2.1 = (w c).2.2)
/-- the draft -/
def dSt (cst len : Nat) (dr : Nat → Int32) (nm : Nat) : Prop := cst ≤ kM + 1 ∧ (cst ≤ kM → len ≤ cst ∧ (len ≤ 60 → chs dr len ∧ num dr len = nm))
theorem lN_n1 {a : Nat} (ha : a < 2 ^ 63) : ¬ lN a ≤ -1 := fun z => by
  have h1 := Int64.le_iff_toInt_le.mp z
  rw [pk_lT ha] at h1
  have h2 : (-1 : Int64).toInt = -1 := rfl
  omega
set_option maxHeartbeats 4000000 in
set_option maxRecDepth 100000 in
theorem c_M_sum {sc : et_X} {h : Nat → et_MC} {d n : Nat} (a b : Nat) (ha : a ≤ kM + 1) (hb : b ≤ kM + 1) : et_Cn sc Y_M_sum d [.long (lN a), .long (lN b)] h n 0 0 (fun r h' n' => r = .inl (some (.long (lN (min (a + b) (kM + 1))))) ∧ n' = n ∧ h' = h) := by
  refine et_Cn.of 0 rfl rfl (by decide) mS_M_sum.1 ?_
  have hkM : kM = 4611686018427387904 := rfl
  refine et_lload_n (i := 0) d_M_sum_0 rfl rfl ?_
  refine et_ldc2 d_M_sum_1 kl_M_199 ?_
  rw [lN_kM]
  refine et_lload_n (i := 2) d_M_sum_4 rfl rfl ?_
  refine et_lsub d_M_sum_5 ?_
  by_cases z : b ≤ kM
  · rw [lN_sub z]
    refine et_lcmp d_M_sum_6 ?_
    refine et_if_le (tgt := 16) d_M_sum_7 (by decide) (fun q => ?_) (fun q => ?_)
    · have q2 : a ≤ kM - b := (pk_lLE (by omega) (by omega)).mp ((lg_cmp_le _ _).mp q)
      refine et_lload_n (i := 0) d_M_sum_16 rfl rfl ?_
      refine et_lload_n (i := 2) d_M_sum_17 rfl rfl ?_
      refine et_ladd d_M_sum_18 ?_
      rw [lN_add]
      exact et_lret d_M_sum_19 rfl (Nat.le_refl _) (Nat.le_refl _) ⟨by rw [Nat.min_eq_left (by omega)], rfl, rfl⟩
    · have q2 : kM - b < a := Nat.lt_of_not_le fun y => q ((lg_cmp_le _ _).mpr ((pk_lLE (by omega) (by omega)).mpr y))
      refine et_ldc2 d_M_sum_10 kl_M_201 ?_
      rw [lN_kM1]
      refine et_goto (tgt := 19) d_M_sum_13 (by decide) ?_
      exact et_lret d_M_sum_19 rfl (Nat.le_refl _) (Nat.le_refl _) ⟨by rw [Nat.min_eq_right (by omega)], rfl, rfl⟩
  · have zb : b = kM + 1 := by omega
    subst zb
    rw [show lN kM - lN (kM + 1) = -1 by decide +kernel]
    refine et_lcmp d_M_sum_6 ?_
    refine et_if_le (tgt := 16) d_M_sum_7 (by decide) (fun q => absurd q (fun y => absurd ((lg_cmp_le _ _).mp y) (lN_n1 (by omega)))) (fun _ => ?_)
    refine et_ldc2 d_M_sum_10 kl_M_201 ?_
    rw [lN_kM1]
    refine et_goto (tgt := 19) d_M_sum_13 (by decide) ?_
    exact et_lret d_M_sum_19 rfl (Nat.le_refl _) (Nat.le_refl _) ⟨by rw [Nat.min_eq_right (by omega)], rfl, rfl⟩
set_option maxHeartbeats 4000000 in
set_option maxRecDepth 100000 in
theorem c_M_append {sc : et_X} {h : Nat → et_MC} {d n : Nat} {th le a_ wr en al se ru nd cs un rs : Int32} {w : Nat → tri} {C : Nat} {c80 c81 : Nat → Int64} {b82 dr : Nat → Int32} (c cst len nm : Nat) (hc : c < C) (hC : C ≤ 40) (hw : et_BS w C c80 c81 b82) (hd : dSt cst len dr nm) (hl : len ≤ kM) (h64 : h 64 = et_Mo th le a_ wr en al se ru nd cs un rs (lN cst) (lN len)) (h80 : h 80 = .inl (1, 104, .inr (.inl c80))) (h81 : h 81 = .inl (1, 104, .inr (.inl c81))) (h82 : h 82 = .inl (0, 6240, .inl b82)) (h83 : h 83 = .inl (0, 60, .inl dr)) : et_Cn sc Y_M_append (d + 1) [.ref 64, .int (nI c)] h n 0 0 (fun r h' n' => r = .inl none ∧ n' = n ∧ (∀ q, q ≠ 64 → q ≠ 83 → h' q = h q) ∧ ∃ (len' nm' : Nat) (dr' : Nat → Int32), h' 64 = et_Mo th le a_ wr en al se ru nd cs un rs (lN (min (cst + (w c).1) (kM + 1))) (lN len') ∧ h' 83 = .inl (0, 60, .inl dr') ∧ dSt (min (cst + (w c).1) (kM + 1)) len' dr' nm' ∧ (cst + (w c).1 ≤ kM → len' = len + (w c).2.1 ∧ (len' ≤ 60 → nm' = nm * 128 ^ (w c).2.1 + (w c).2.2)) ∧ len' ≤ kM) := by
  refine et_Cn.of 1 rfl rfl (by decide) mV_M_append.1 ?_
  have hkM : kM = 4611686018427387904 := rfl
  obtain ⟨⟨t1, t2, t3, t4⟩, w1, w2, w3⟩ := hw c hc
  obtain ⟨d1, d2⟩ := id hd
  refine et_aload_n (i := 0) d_M_append_0 rfl rfl ?_
  refine et_aload_n (i := 0) d_M_append_1 rfl rfl ?_
  refine et_getf (ci := 7) 31 d_M_append_2 h64 rfl in_M (by decide) fl_M_203 rfl ?_
  refine et_aload_n (i := 0) d_M_append_5 rfl rfl ?_
  refine et_getf (ci := 7) 27 d_M_append_6 h64 rfl in_M (by decide) fl_M_59 rfl ?_
  refine et_iload_n (i := 1) d_M_append_9 rfl rfl ?_
  refine et_laln d_M_append_10 h80 (by omega) (by first | decide | omega) ?_
  rw [w1]
  refine et_invS mS_M_sum (As := [_, _]) rfl d_M_append_11 lk_M_207 len_M_sum (Nat.le_of_ble_eq_true rfl) (c_M_sum (d := d) cst (w c).1 d1 t1) (Nat.le_refl _) (Nat.le_of_ble_eq_true rfl) (Nat.le_of_ble_eq_true rfl) (fun v h' n' hp => ?_) (fun x h' n' hp => by cases hp.1)
  obtain ⟨hv, hn2, hh2⟩ := hp
  cases hv
  replace hh2 := hh2.symm
  subst hh2
  replace hn2 := hn2.symm
  subst hn2
  refine et_putf (ci := 7) 31 d_M_append_14 h64 rfl in_M ty_M nm_M (by decide) fl_M_203 rfl rfl (fun _ => rfl) (fun _ => rfl) (Nat.le_of_ble_eq_true rfl) (fs' := [_, _, _, _, _, _, _, _, _, _, _, _, _, _, _, _, _, _, _, _, _, _, _, _, _, _, _, _, _, _, _, _, _]) rfl ?_
  refine et_aload_n (i := 0) d_M_append_17 rfl rfl ?_
  refine et_getf (ci := 7) 31 d_M_append_18 rfl rfl in_M (by decide) fl_M_203 rfl ?_
  refine et_ldc2 d_M_append_21 kl_M_199 ?_
  rw [lN_kM]
  refine et_lcmp d_M_append_24 ?_
  refine et_if_gt (tgt := 108) d_M_append_25 (by decide) (fun q => ?_) (fun q => ?_)
  · have q2 : kM < min (cst + (w c).1) (kM + 1) := (pk_lLT (by omega) (by omega)).mp ((lg_cmp_gt _ _).mp q)
    exact et_vret d_M_append_108 rfl (Nat.le_refl _) (Nat.le_refl _) ⟨rfl, rfl, fun q q1 q2 => va_ne q1, len, nm, dr, va_eq, (va_ne (by decide)).trans h83, ⟨by omega, fun z => by omega⟩, (fun z => by omega), hl⟩
  · have q2 : cst + (w c).1 ≤ kM := by
      have : ¬ kM < min (cst + (w c).1) (kM + 1) := fun z => q ((lg_cmp_gt _ _).mpr ((pk_lLT (by omega) (by omega)).mpr z))
      omega
    rw [Nat.min_eq_left (show cst + (w c).1 ≤ kM + 1 by omega)]
    obtain ⟨d3, d4⟩ := d2 (by omega)
    have loop : ∀ (s k : Nat) (dr2 : Nat → Int32) (hh : Nat → et_MC), k + s = 60 → hh 64 = et_Mo th le a_ wr en al se ru nd cs un rs (lN (cst + (w c).1)) (lN len) → hh 83 = .inl (0, 60, .inl dr2) → (∀ q, q ≠ 64 → q ≠ 83 → hh q = h q) → (∀ j, j < 60 → dr2 j = (if len ≤ j ∧ j - len < k ∧ j - len < (w c).2.1 then b82 (60 * c + (j - len)) else dr j)) → et_M sc Y_M_append (d + 1) 0 0 (fun r h' n' => r = .inl none ∧ n' = n ∧ (∀ q, q ≠ 64 → q ≠ 83 → h' q = h q) ∧ ∃ (len' nm' : Nat) (dr' : Nat → Int32), h' 64 = et_Mo th le a_ wr en al se ru nd cs un rs (lN (cst + (w c).1)) (lN len') ∧ h' 83 = .inl (0, 60, .inl dr') ∧ dSt (cst + (w c).1) len' dr' nm' ∧ (cst + (w c).1 ≤ kM → len' = len + (w c).2.1 ∧ (len' ≤ 60 → nm' = nm * 128 ^ (w c).2.1 + (w c).2.2)) ∧ len' ≤ kM) 30 [some (.ref 64), some (.int (nI c)), some (.int (nI k))] [] hh n 0 0 := by
      intro s
      induction s with
      | zero =>
        intro k dr2 hh hk k64 k83 fr hdr
        obtain rfl : k = 60 := by omega
        have k81 := (fr 81 (by decide) (by decide)).trans h81
        refine et_iload_n (i := 2) d_M_append_30 rfl rfl ?_
        refine et_bipush (v := nI 60) d_M_append_31 (by decide) ?_
        refine et_icmp_ge (tgt := 91) d_M_append_33 (by decide) (fun _ => ?_) (fun q => absurd (nI_le (Nat.le_refl _) (by omega)) q)
        refine et_aload_n (i := 0) d_M_append_91 rfl rfl ?_
        refine et_aload_n (i := 0) d_M_append_92 rfl rfl ?_
        refine et_getf (ci := 7) 32 d_M_append_93 k64 rfl in_M (by decide) fl_M_211 rfl ?_
        refine et_aload_n (i := 0) d_M_append_96 rfl rfl ?_
        refine et_getf (ci := 7) 28 d_M_append_97 k64 rfl in_M (by decide) fl_M_63 rfl ?_
        refine et_iload_n (i := 1) d_M_append_100 rfl rfl ?_
        refine et_laln d_M_append_101 k81 (by omega) (by first | decide | omega) ?_
        rw [w2]
        refine et_invS mS_M_sum (As := [_, _]) rfl d_M_append_102 lk_M_207 len_M_sum (Nat.le_of_ble_eq_true rfl) (c_M_sum (d := d) len (w c).2.1 (by omega) (by omega)) (Nat.le_refl _) (Nat.le_of_ble_eq_true rfl) (Nat.le_of_ble_eq_true rfl) (fun v h' n' hp => ?_) (fun x h' n' hp => by cases hp.1)
        obtain ⟨hv, hn2, hh2⟩ := hp
        cases hv
        replace hh2 := hh2.symm
        subst hh2
        replace hn2 := hn2.symm
        subst hn2
        rw [Nat.min_eq_left (show len + (w c).2.1 ≤ kM + 1 by omega)]
        refine et_putf (ci := 7) 32 d_M_append_105 k64 rfl in_M ty_M nm_M (by decide) fl_M_211 rfl rfl (fun _ => rfl) (fun _ => rfl) (Nat.le_of_ble_eq_true rfl) (fs' := [_, _, _, _, _, _, _, _, _, _, _, _, _, _, _, _, _, _, _, _, _, _, _, _, _, _, _, _, _, _, _, _, _]) rfl ?_
        refine et_vret d_M_append_108 rfl (Nat.le_refl _) (Nat.le_refl _) ⟨rfl, rfl, fun q q1 q2 => (va_ne q1).trans (fr q q1 q2), len + (w c).2.1, nm * 128 ^ (w c).2.1 + (w c).2.2, dr2, va_eq, (va_ne (by decide)).trans k83, ⟨by omega, fun _ => ⟨by omega, fun h60 => ?_⟩⟩, (fun _ => ⟨rfl, fun _ => rfl⟩), by omega⟩
        obtain ⟨x1, x2⟩ := d4 (by omega)
        obtain ⟨y1, y2⟩ := w3 (by omega)
        have lo : ∀ j, j < len → dr2 j = dr j := fun j hj => by rw [hdr j (by omega), if_neg (by omega)]
        have hi : ∀ j, j < (w c).2.1 → dr2 (len + j) = b82 (60 * c + j) := fun j hj => by rw [hdr _ (by omega), if_pos (by omega), show len + j - len = j by omega]
        refine ⟨fun j hj => ?_, ?_⟩
        · by_cases z : j < len
          · rw [lo j z]; exact x1 j z
          · rw [show j = len + (j - len) by omega, hi _ (by omega)]
            exact y1 (j - len) (by omega)
        · rw [num_app, num_same lo, x2, num_same (t := fun j => dr2 (len + j)) (t' := fun j => b82 (60 * c + j)) hi, y2]
      | succ s ih =>
        intro k dr2 hh hk k64 k83 fr hdr
        have k81 := (fr 81 (by decide) (by decide)).trans h81
        have k82 := (fr 82 (by decide) (by decide)).trans h82
        have skip : (¬ (k < (w c).2.1 ∧ len + k < 60)) → et_M sc Y_M_append (d + 1) 0 0 (fun r h' n' => r = .inl none ∧ n' = n ∧ (∀ q, q ≠ 64 → q ≠ 83 → h' q = h q) ∧ ∃ (len' nm' : Nat) (dr' : Nat → Int32), h' 64 = et_Mo th le a_ wr en al se ru nd cs un rs (lN (cst + (w c).1)) (lN len') ∧ h' 83 = .inl (0, 60, .inl dr') ∧ dSt (cst + (w c).1) len' dr' nm' ∧ (cst + (w c).1 ≤ kM → len' = len + (w c).2.1 ∧ (len' ≤ 60 → nm' = nm * 128 ^ (w c).2.1 + (w c).2.2)) ∧ len' ≤ kM) 85 [some (.ref 64), some (.int (nI c)), some (.int (nI k))] [] hh n 0 0 := by
          intro hno
          refine et_iinc (lv' := [_, _, _]) d_M_append_85 rfl (v := nI (k + 1)) (nI_1 k) (by decide) rfl rfl ?_
          refine et_goto (tgt := 30) d_M_append_88 (by decide) ?_
          refine ih (k + 1) dr2 hh (by omega) k64 k83 fr (fun j hj => ?_)
          rw [hdr j hj]
          by_cases z : len ≤ j ∧ j - len < k ∧ j - len < (w c).2.1
          · rw [if_pos z, if_pos (by omega)]
          · rw [if_neg z, if_neg (by omega)]
        refine et_iload_n (i := 2) d_M_append_30 rfl rfl ?_
        refine et_bipush (v := nI 60) d_M_append_31 (by decide) ?_
        refine et_icmp_ge (tgt := 91) d_M_append_33 (by decide) (fun q => absurd q (nI_ge (by omega) (by omega))) (fun _ => ?_)
        refine et_iload_n (i := 2) d_M_append_36 rfl rfl ?_
        refine et_i2l d_M_append_37 (nI_l (by omega)) ?_
        refine et_aload_n (i := 0) d_M_append_38 rfl rfl ?_
        refine et_getf (ci := 7) 28 d_M_append_39 k64 rfl in_M (by decide) fl_M_63 rfl ?_
        refine et_iload_n (i := 1) d_M_append_42 rfl rfl ?_
        refine et_laln d_M_append_43 k81 (by omega) (by first | decide | omega) ?_
        rw [w2]
        refine et_lcmp d_M_append_44 ?_
        refine et_if_ge (tgt := 85) d_M_append_45 (by decide) (fun p => ?_) (fun p => ?_)
        · have p2 : (w c).2.1 ≤ k := (pk_lLE (by omega) (by omega)).mp ((lg_cmp_ge _ _).mp p)
          exact skip (by omega)
        · have p2 : k < (w c).2.1 := Nat.lt_of_not_le fun z => p ((lg_cmp_ge _ _).mpr ((pk_lLE (by omega) (by omega)).mpr z))
          refine et_aload_n (i := 0) d_M_append_48 rfl rfl ?_
          refine et_getf (ci := 7) 32 d_M_append_49 k64 rfl in_M (by decide) fl_M_211 rfl ?_
          refine et_iload_n (i := 2) d_M_append_52 rfl rfl ?_
          refine et_i2l d_M_append_53 (nI_l (by omega)) ?_
          refine et_ladd d_M_append_54 ?_
          rw [lN_add]
          refine et_ldc2 d_M_append_55 kl_M_214 ?_
          rw [show (60 : Int64) = lN 60 from rfl]
          refine et_lcmp d_M_append_58 ?_
          refine et_if_ge (tgt := 85) d_M_append_59 (by decide) (fun u => ?_) (fun u => ?_)
          · have u2 : 60 ≤ len + k := (pk_lLE (by omega) (by omega)).mp ((lg_cmp_ge _ _).mp u)
            exact skip (by omega)
          · have u2 : len + k < 60 := Nat.lt_of_not_le fun z => u ((lg_cmp_ge _ _).mpr ((pk_lLE (by omega) (by omega)).mpr z))
            refine et_aload_n (i := 0) d_M_append_62 rfl rfl ?_
            refine et_getf (ci := 7) 30 d_M_append_63 k64 rfl in_M (by decide) fl_M_69 rfl ?_
            refine et_aload_n (i := 0) d_M_append_66 rfl rfl ?_
            refine et_getf (ci := 7) 32 d_M_append_67 k64 rfl in_M (by decide) fl_M_211 rfl ?_
            refine et_l2i d_M_append_70 (lN_i _) ?_
            refine et_iload_n (i := 2) d_M_append_71 rfl rfl ?_
            refine et_iadd d_M_append_72 ?_
            rw [nI_add]
            refine et_aload_n (i := 0) d_M_append_73 rfl rfl ?_
            refine et_getf (ci := 7) 29 d_M_append_74 k64 rfl in_M (by decide) fl_M_66 rfl ?_
            refine et_bipush (v := nI 60) d_M_append_77 (by decide) ?_
            refine et_iload_n (i := 1) d_M_append_79 rfl rfl ?_
            refine et_imul d_M_append_80 ?_
            rw [nI_mul]
            refine et_iload_n (i := 2) d_M_append_81 rfl rfl ?_
            refine et_iadd d_M_append_82 ?_
            rw [nI_add]
            refine et_ialn d_M_append_83 k82 (by omega) (by first | decide | omega) ?_
            refine et_iasn d_M_append_84 k83 (by omega) (by first | decide | omega) ?_
            refine et_iinc (lv' := [_, _, _]) d_M_append_85 rfl (v := nI (k + 1)) (nI_1 k) (by decide) rfl rfl ?_
            refine et_goto (tgt := 30) d_M_append_88 (by decide) ?_
            refine ih (k + 1) (upd dr2 (len + k) (b82 (60 * c + k))) _ (by omega) ((va_ne (by decide)).trans k64) va_eq (fun q q1 q2 => (va_ne q2).trans (fr q q1 q2)) (fun j hj => ?_)
            by_cases z : j = len + k
            · rw [z, pk_us, if_pos (by omega), show len + k - len = k by omega]
            · rw [pk_un z, hdr j hj]
              by_cases y : len ≤ j ∧ j - len < k ∧ j - len < (w c).2.1
              · rw [if_pos y, if_pos (by omega)]
              · rw [if_neg y, if_neg (by omega)]
    refine et_iconst (v := nI 0) d_M_append_28 (by decide) ?_
    refine et_istore_n (i := 2) (lv' := [_, _, _]) d_M_append_29 rfl (by decide) rfl rfl ?_
    refine loop 60 0 dr _ (by omega) va_eq ((va_ne (by decide)).trans h83) (fun q q1 q2 => va_ne q1) (fun j hj => by rw [if_neg (by omega)])
set_option maxHeartbeats 4000000 in
set_option maxRecDepth 100000 in
theorem c_M_isBetter {sc : et_X} {h : Nat → et_MC} {d n : Nat} {th le a_ wr en al se ru nd cs un rs : Int32} {w : Nat → tri} {C : Nat} {c80 c81 : Nat → Int64} {b82 dr : Nat → Int32} (c cst len nm : Nat) (hc : c < C) (hC : C ≤ 40) (hw : et_BS w C c80 c81 b82) (hcst : cst ≤ kM) (hlc : len ≤ cst) (hd : len ≤ 60 → chs dr len ∧ num dr len = nm) (hd0 : 60 < len → nm = 0) (h64 : h 64 = et_Mo th le a_ wr en al se ru nd cs un rs (lN cst) (lN len)) (h80 : h 80 = .inl (1, 104, .inr (.inl c80))) (h81 : h 81 = .inl (1, 104, .inr (.inl c81))) (h82 : h 82 = .inl (0, 6240, .inl b82)) (h83 : h 83 = .inl (0, 60, .inl dr)) : et_Cn sc Y_M_isBetter d [.ref 64, .int (nI c)] h n 0 0 (fun r h' n' => n' = n ∧ h' = h ∧ ((r = .inl (some (.int 1)) ∧ ¬ tLe (w c) (cst, len, nm)) ∨ (r = .inl (some (.int 0)) ∧ tLe (w c) (cst, len, nm)))) := by
  refine et_Cn.of 1 rfl rfl (by decide) mV_M_isBetter.1 ?_
  have hkM : kM = 4611686018427387904 := rfl
  obtain ⟨⟨t1, t2, t3, t4⟩, w1, w2, w3⟩ := hw c hc
  have td : tLe (w c) (cst, len, nm) ↔ (w c).1 < cst ∨ ((w c).1 = cst ∧ ((w c).2.1 < len ∨ ((w c).2.1 = len ∧ (w c).2.2 ≤ nm))) := Iff.rfl
  refine et_aload_n (i := 0) d_M_isBetter_0 rfl rfl ?_
  refine et_getf (ci := 7) 31 d_M_isBetter_1 h64 rfl in_M (by decide) fl_M_203 rfl ?_
  refine et_aload_n (i := 0) d_M_isBetter_4 rfl rfl ?_
  refine et_getf (ci := 7) 27 d_M_isBetter_5 h64 rfl in_M (by decide) fl_M_59 rfl ?_
  refine et_iload_n (i := 1) d_M_isBetter_8 rfl rfl ?_
  refine et_laln d_M_isBetter_9 h80 (by omega) (by first | decide | omega) ?_
  rw [w1]
  refine et_lcmp d_M_isBetter_10 ?_
  refine et_if_eq (tgt := 34) d_M_isBetter_11 (by decide) (fun q => ?_) (fun q => ?_)
  · have q2 : cst = (w c).1 := (pk_lEQ (by omega) (by omega)).mp ((lg_cmp_eq _ _).mp q)
    refine et_aload_n (i := 0) d_M_isBetter_34 rfl rfl ?_
    refine et_getf (ci := 7) 32 d_M_isBetter_35 h64 rfl in_M (by decide) fl_M_211 rfl ?_
    refine et_aload_n (i := 0) d_M_isBetter_38 rfl rfl ?_
    refine et_getf (ci := 7) 28 d_M_isBetter_39 h64 rfl in_M (by decide) fl_M_63 rfl ?_
    refine et_iload_n (i := 1) d_M_isBetter_42 rfl rfl ?_
    refine et_laln d_M_isBetter_43 h81 (by omega) (by first | decide | omega) ?_
    rw [w2]
    refine et_lcmp d_M_isBetter_44 ?_
    have cmp : (len ≠ (w c).2.1 ∨ 60 < len) → et_M sc Y_M_isBetter d 0 0 (fun r h' n' => n' = n ∧ h' = h ∧ ((r = .inl (some (.int 1)) ∧ ¬ tLe (w c) (cst, len, nm)) ∨ (r = .inl (some (.int 0)) ∧ tLe (w c) (cst, len, nm)))) 59 [some (.ref 64), some (.int (nI c)), none] [] h n 0 0 := by
      intro hor
      refine et_aload_n (i := 0) d_M_isBetter_59 rfl rfl ?_
      refine et_getf (ci := 7) 32 d_M_isBetter_60 h64 rfl in_M (by decide) fl_M_211 rfl ?_
      refine et_aload_n (i := 0) d_M_isBetter_63 rfl rfl ?_
      refine et_getf (ci := 7) 28 d_M_isBetter_64 h64 rfl in_M (by decide) fl_M_63 rfl ?_
      refine et_iload_n (i := 1) d_M_isBetter_67 rfl rfl ?_
      refine et_laln d_M_isBetter_68 h81 (by omega) (by first | decide | omega) ?_
      rw [w2]
      refine et_lcmp d_M_isBetter_69 ?_
      refine et_if_ge (tgt := 77) d_M_isBetter_70 (by decide) (fun p => ?_) (fun p => ?_)
      · have p2 : (w c).2.1 ≤ len := (pk_lLE (by omega) (by omega)).mp ((lg_cmp_ge _ _).mp p)
        refine et_iconst (v := 0) d_M_isBetter_77 (by decide) ?_
        exact et_zret d_M_isBetter_78 rfl rfl (Nat.le_refl _) (Nat.le_refl _) ⟨rfl, rfl, Or.inr ⟨rfl, td.mpr (Or.inr ⟨q2.symm, by by_cases z : (w c).2.1 = len; exact Or.inr ⟨z, by rw [t4 (by omega)]; exact Nat.zero_le _⟩; exact Or.inl (by omega)⟩)⟩⟩
      · have p2 : len < (w c).2.1 := Nat.lt_of_not_le fun z => p ((lg_cmp_ge _ _).mpr ((pk_lLE (by omega) (by omega)).mpr z))
        refine et_iconst (v := 1) d_M_isBetter_73 (by decide) ?_
        refine et_goto (tgt := 78) d_M_isBetter_74 (by decide) ?_
        exact et_zret d_M_isBetter_78 rfl rfl (Nat.le_refl _) (Nat.le_refl _) ⟨rfl, rfl, Or.inl ⟨rfl, fun z => by rw [td] at z; omega⟩⟩
    refine et_if_ne (tgt := 59) d_M_isBetter_45 (by decide) (fun p => ?_) (fun p => ?_)
    · exact cmp (Or.inl fun z => p ((lg_cmp_eq _ _).mpr (by rw [z])))
    · have p2 : len = (w c).2.1 := (pk_lEQ (by omega) (by omega)).mp ((lg_cmp_eq _ _).mp p)
      refine et_aload_n (i := 0) d_M_isBetter_48 rfl rfl ?_
      refine et_getf (ci := 7) 32 d_M_isBetter_49 h64 rfl in_M (by decide) fl_M_211 rfl ?_
      refine et_ldc2 d_M_isBetter_52 kl_M_214 ?_
      rw [show (60 : Int64) = lN 60 from rfl]
      refine et_lcmp d_M_isBetter_55 ?_
      refine et_if_le (tgt := 79) d_M_isBetter_56 (by decide) (fun u => ?_) (fun u => ?_)
      · have u2 : len ≤ 60 := (pk_lLE (by omega) (by omega)).mp ((lg_cmp_le _ _).mp u)
        obtain ⟨x1, x2⟩ := hd u2
        obtain ⟨y1, y2⟩ := w3 (by omega)
        rw [← p2] at y1 y2
        have loop : ∀ (s k : Nat), k + s = len → (∀ j, j < k → dr j = b82 (60 * c + j)) → et_M sc Y_M_isBetter d 0 0 (fun r h' n' => n' = n ∧ h' = h ∧ ((r = .inl (some (.int 1)) ∧ ¬ tLe (w c) (cst, len, nm)) ∨ (r = .inl (some (.int 0)) ∧ tLe (w c) (cst, len, nm)))) 81 [some (.ref 64), some (.int (nI c)), some (.int (nI k))] [] h n 0 0 := by
          intro s
          induction s with
          | zero =>
            intro k hk he
            obtain rfl : k = len := by omega
            refine et_iload_n (i := 2) d_M_isBetter_81 rfl rfl ?_
            refine et_i2l d_M_isBetter_82 (nI_l (by omega)) ?_
            refine et_aload_n (i := 0) d_M_isBetter_83 rfl rfl ?_
            refine et_getf (ci := 7) 32 d_M_isBetter_84 h64 rfl in_M (by decide) fl_M_211 rfl ?_
            refine et_lcmp d_M_isBetter_87 ?_
            refine et_if_ge (tgt := 117) d_M_isBetter_88 (by decide) (fun _ => ?_) (fun q => absurd ((lg_cmp_ge _ _).mpr ((pk_lLE (by omega) (by omega)).mpr (Nat.le_refl _))) q)
            refine et_iload_n (i := 2) d_M_isBetter_117 rfl rfl ?_
            refine et_i2l d_M_isBetter_118 (nI_l (by omega)) ?_
            refine et_aload_n (i := 0) d_M_isBetter_119 rfl rfl ?_
            refine et_getf (ci := 7) 32 d_M_isBetter_120 h64 rfl in_M (by decide) fl_M_211 rfl ?_
            refine et_lcmp d_M_isBetter_123 ?_
            refine et_if_ge (tgt := 151) d_M_isBetter_124 (by decide) (fun _ => ?_) (fun q => absurd ((lg_cmp_ge _ _).mpr ((pk_lLE (by omega) (by omega)).mpr (Nat.le_refl _))) q)
            refine et_iconst (v := 0) d_M_isBetter_151 (by decide) ?_
            exact et_zret d_M_isBetter_152 rfl rfl (Nat.le_refl _) (Nat.le_refl _) ⟨rfl, rfl, Or.inr ⟨rfl, td.mpr (Or.inr ⟨q2.symm, Or.inr ⟨p2.symm, by rw [← y2, ← x2, num_same (t := dr) (t' := fun j => b82 (60 * c + j)) he]; exact Nat.le_refl _⟩⟩)⟩⟩
          | succ s ih =>
            intro k hk he
            refine et_iload_n (i := 2) d_M_isBetter_81 rfl rfl ?_
            refine et_i2l d_M_isBetter_82 (nI_l (by omega)) ?_
            refine et_aload_n (i := 0) d_M_isBetter_83 rfl rfl ?_
            refine et_getf (ci := 7) 32 d_M_isBetter_84 h64 rfl in_M (by decide) fl_M_211 rfl ?_
            refine et_lcmp d_M_isBetter_87 ?_
            refine et_if_ge (tgt := 117) d_M_isBetter_88 (by decide) (fun q => absurd q (fun z => absurd ((pk_lLE (by omega) (by omega)).mp ((lg_cmp_ge _ _).mp z)) (by omega))) (fun _ => ?_)
            refine et_aload_n (i := 0) d_M_isBetter_91 rfl rfl ?_
            refine et_getf (ci := 7) 30 d_M_isBetter_92 h64 rfl in_M (by decide) fl_M_69 rfl ?_
            refine et_iload_n (i := 2) d_M_isBetter_95 rfl rfl ?_
            refine et_ialn d_M_isBetter_96 h83 (by omega) (by first | decide | omega) ?_
            refine et_aload_n (i := 0) d_M_isBetter_97 rfl rfl ?_
            refine et_getf (ci := 7) 29 d_M_isBetter_98 h64 rfl in_M (by decide) fl_M_66 rfl ?_
            refine et_bipush (v := nI 60) d_M_isBetter_101 (by decide) ?_
            refine et_iload_n (i := 1) d_M_isBetter_103 rfl rfl ?_
            refine et_imul d_M_isBetter_104 ?_
            rw [nI_mul]
            refine et_iload_n (i := 2) d_M_isBetter_105 rfl rfl ?_
            refine et_iadd d_M_isBetter_106 ?_
            rw [nI_add]
            refine et_ialn d_M_isBetter_107 h82 (by omega) (by first | decide | omega) ?_
            refine et_icmp_ne (tgt := 117) d_M_isBetter_108 (by decide) (fun e => ?_) (fun e => ?_)
            · refine et_iload_n (i := 2) d_M_isBetter_117 rfl rfl ?_
              refine et_i2l d_M_isBetter_118 (nI_l (by omega)) ?_
              refine et_aload_n (i := 0) d_M_isBetter_119 rfl rfl ?_
              refine et_getf (ci := 7) 32 d_M_isBetter_120 h64 rfl in_M (by decide) fl_M_211 rfl ?_
              refine et_lcmp d_M_isBetter_123 ?_
              refine et_if_ge (tgt := 151) d_M_isBetter_124 (by decide) (fun q => absurd q (fun z => absurd ((pk_lLE (by omega) (by omega)).mp ((lg_cmp_ge _ _).mp z)) (by omega))) (fun _ => ?_)
              refine et_aload_n (i := 0) d_M_isBetter_127 rfl rfl ?_
              refine et_getf (ci := 7) 30 d_M_isBetter_128 h64 rfl in_M (by decide) fl_M_69 rfl ?_
              refine et_iload_n (i := 2) d_M_isBetter_131 rfl rfl ?_
              refine et_ialn d_M_isBetter_132 h83 (by omega) (by first | decide | omega) ?_
              refine et_aload_n (i := 0) d_M_isBetter_133 rfl rfl ?_
              refine et_getf (ci := 7) 29 d_M_isBetter_134 h64 rfl in_M (by decide) fl_M_66 rfl ?_
              refine et_bipush (v := nI 60) d_M_isBetter_137 (by decide) ?_
              refine et_iload_n (i := 1) d_M_isBetter_139 rfl rfl ?_
              refine et_imul d_M_isBetter_140 ?_
              rw [nI_mul]
              refine et_iload_n (i := 2) d_M_isBetter_141 rfl rfl ?_
              refine et_iadd d_M_isBetter_142 ?_
              rw [nI_add]
              refine et_ialn d_M_isBetter_143 h82 (by omega) (by first | decide | omega) ?_
              refine et_icmp_ge (tgt := 151) d_M_isBetter_144 (by decide) (fun g => ?_) (fun g => ?_)
              · have g2 : b82 (60 * c + k) < dr k := Int32.lt_of_le_of_ne g (fun z => e z.symm)
                have lt := num_lt (t := fun j => b82 (60 * c + j)) (t' := dr) (fun j hj => (he j hj).symm) (i32_lt (y1 k (by omega)).1 g2) (show k < len by omega) y1
                refine et_iconst (v := 0) d_M_isBetter_151 (by decide) ?_
                exact et_zret d_M_isBetter_152 rfl rfl (Nat.le_refl _) (Nat.le_refl _) ⟨rfl, rfl, Or.inr ⟨rfl, td.mpr (Or.inr ⟨q2.symm, Or.inr ⟨p2.symm, by rw [← y2, ← x2]; exact Nat.le_of_lt lt⟩⟩)⟩⟩
              · have g2 : dr k < b82 (60 * c + k) := Int32.not_le.mp g
                have lt := num_lt (t := dr) (t' := fun j => b82 (60 * c + j)) he (i32_lt (x1 k (by omega)).1 g2) (show k < len by omega) x1
                refine et_iconst (v := 1) d_M_isBetter_147 (by decide) ?_
                refine et_goto (tgt := 152) d_M_isBetter_148 (by decide) ?_
                exact et_zret d_M_isBetter_152 rfl rfl (Nat.le_refl _) (Nat.le_refl _) ⟨rfl, rfl, Or.inl ⟨rfl, fun z => by rw [td, ← y2, ← x2] at z; omega⟩⟩
            · refine et_iinc (lv' := [_, _, _]) d_M_isBetter_111 rfl (v := nI (k + 1)) (nI_1 k) (by decide) rfl rfl ?_
              refine et_goto (tgt := 81) d_M_isBetter_114 (by decide) ?_
              refine ih (k + 1) (by omega) (fun j hj => ?_)
              by_cases z : j = k
              · rw [z]; exact e
              · exact he j (by omega)
        refine et_iconst (v := nI 0) d_M_isBetter_79 (by decide) ?_
        refine et_istore_n (i := 2) (lv' := [_, _, _]) d_M_isBetter_80 rfl (by decide) rfl rfl ?_
        exact loop len 0 (by omega) (fun j hj => absurd hj (Nat.not_lt_zero _))
      · exact cmp (Or.inr (Nat.lt_of_not_le fun z => u ((lg_cmp_le _ _).mpr ((pk_lLE (by omega) (by omega)).mpr z))))
  · have q2 : cst ≠ (w c).1 := fun z => q ((lg_cmp_eq _ _).mpr (by rw [z]))
    refine et_aload_n (i := 0) d_M_isBetter_14 rfl rfl ?_
    refine et_getf (ci := 7) 31 d_M_isBetter_15 h64 rfl in_M (by decide) fl_M_203 rfl ?_
    refine et_aload_n (i := 0) d_M_isBetter_18 rfl rfl ?_
    refine et_getf (ci := 7) 27 d_M_isBetter_19 h64 rfl in_M (by decide) fl_M_59 rfl ?_
    refine et_iload_n (i := 1) d_M_isBetter_22 rfl rfl ?_
    refine et_laln d_M_isBetter_23 h80 (by omega) (by first | decide | omega) ?_
    rw [w1]
    refine et_lcmp d_M_isBetter_24 ?_
    refine et_if_ge (tgt := 32) d_M_isBetter_25 (by decide) (fun p => ?_) (fun p => ?_)
    · have p2 : (w c).1 ≤ cst := (pk_lLE (by omega) (by omega)).mp ((lg_cmp_ge _ _).mp p)
      refine et_iconst (v := 0) d_M_isBetter_32 (by decide) ?_
      exact et_zret d_M_isBetter_33 rfl rfl (Nat.le_refl _) (Nat.le_refl _) ⟨rfl, rfl, Or.inr ⟨rfl, td.mpr (Or.inl (by omega))⟩⟩
    · have p2 : cst < (w c).1 := Nat.lt_of_not_le fun z => p ((lg_cmp_ge _ _).mpr ((pk_lLE (by omega) (by omega)).mpr z))
      refine et_iconst (v := 1) d_M_isBetter_28 (by decide) ?_
      refine et_goto (tgt := 33) d_M_isBetter_29 (by decide) ?_
      exact et_zret d_M_isBetter_33 rfl rfl (Nat.le_refl _) (Nat.le_refl _) ⟨rfl, rfl, Or.inl ⟨rfl, fun z => by rw [td] at z; omega⟩⟩
