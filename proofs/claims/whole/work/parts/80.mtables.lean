/-! ===== the model's tables ===== -/
theorem et_w3a {a b o2 : Option Value} : ∀ (j : Nat) (v : Value), ([a, b, none] : List (Option Value))[j]? = some (some v) → ([a, b, o2] : List (Option Value))[j]? = some (some v)
  | 0, _, h => h
  | 1, _, h => h
  | 2, _, h => by simp at h
  | j + 3, _, h => by simp at h
set_option maxHeartbeats 4000000 in
set_option maxRecDepth 100000 in
theorem c_M_kindOf {sc : et_X} {h : Nat → et_MC} {d n : Nat} (s : Int32) : et_Cn sc Y_M_kindOf d [.int s] h n 0 0 (fun r h' n' => r = .inl (some (.int (nI (kd s)))) ∧ n' = n ∧ h' = h) := by
  refine et_Cn.of 0 rfl rfl (by decide) mS_M_kindOf.1 ?_
  refine et_iload_n (i := 0) d_M_kindOf_0 rfl rfl ?_
  refine et_bipush (v := 43) d_M_kindOf_1 (by decide) ?_
  refine et_icmp_eq (tgt := 12) d_M_kindOf_3 (by decide) (fun q => ?_) (fun q => ?_)
  · refine et_iconst (v := 0) d_M_kindOf_12 (by decide) ?_
    refine et_goto (tgt := 33) d_M_kindOf_13 (by decide) ?_
    exact et_iret d_M_kindOf_33 rfl (Nat.le_of_ble_eq_true rfl) (Nat.le_of_ble_eq_true rfl) ⟨by rw [show kd s = 0 by rw [kd, if_pos (Or.inl q)]]; rfl, rfl, rfl⟩
  · refine et_iload_n (i := 0) d_M_kindOf_6 rfl rfl ?_
    refine et_bipush (v := 45) d_M_kindOf_7 (by decide) ?_
    refine et_icmp_ne (tgt := 16) d_M_kindOf_9 (by decide) (fun p => ?_) (fun p => ?_)
    · have z : ¬ (s = 43 ∨ s = 45) := fun w => w.elim q p
      refine et_iload_n (i := 0) d_M_kindOf_16 rfl rfl ?_
      refine et_bipush (v := 42) d_M_kindOf_17 (by decide) ?_
      refine et_icmp_eq (tgt := 28) d_M_kindOf_19 (by decide) (fun a => ?_) (fun a => ?_)
      · refine et_iconst (v := 1) d_M_kindOf_28 (by decide) ?_
        refine et_goto (tgt := 33) d_M_kindOf_29 (by decide) ?_
        exact et_iret d_M_kindOf_33 rfl (Nat.le_of_ble_eq_true rfl) (Nat.le_of_ble_eq_true rfl) ⟨by rw [show kd s = 1 by rw [kd, if_neg z, if_pos (Or.inl a)]]; rfl, rfl, rfl⟩
      · refine et_iload_n (i := 0) d_M_kindOf_22 rfl rfl ?_
        refine et_bipush (v := 33) d_M_kindOf_23 (by decide) ?_
        refine et_icmp_ne (tgt := 32) d_M_kindOf_25 (by decide) (fun b => ?_) (fun b => ?_)
        · refine et_iconst (v := 2) d_M_kindOf_32 (by decide) ?_
          exact et_iret d_M_kindOf_33 rfl (Nat.le_of_ble_eq_true rfl) (Nat.le_of_ble_eq_true rfl) ⟨by rw [show kd s = 2 by rw [kd, if_neg z, if_neg (fun w => w.elim a b)]]; rfl, rfl, rfl⟩
        · refine et_iconst (v := 1) d_M_kindOf_28 (by decide) ?_
          refine et_goto (tgt := 33) d_M_kindOf_29 (by decide) ?_
          exact et_iret d_M_kindOf_33 rfl (Nat.le_of_ble_eq_true rfl) (Nat.le_of_ble_eq_true rfl) ⟨by rw [show kd s = 1 by rw [kd, if_neg z, if_pos (Or.inr b)]]; rfl, rfl, rfl⟩
    · refine et_iconst (v := 0) d_M_kindOf_12 (by decide) ?_
      refine et_goto (tgt := 33) d_M_kindOf_13 (by decide) ?_
      exact et_iret d_M_kindOf_33 rfl (Nat.le_of_ble_eq_true rfl) (Nat.le_of_ble_eq_true rfl) ⟨by rw [show kd s = 0 by rw [kd, if_pos (Or.inr p)]]; rfl, rfl, rfl⟩
/-- the tables hold the first k nodes -/
def et_TB (g : gr) (k : Nat) (t76 t77 t78 : Nat → Int32) : Prop := (∀ s, et_pt s = 0 → t76 s.toNatClampNeg = oI (gFindN g s 0 0 k)) ∧ (∀ s a, et_pt s = 1 → a < 40 → t77 (40 * kd s + a) = oI (gFindN g s (a + 1) 0 k)) ∧ ∀ s a b, et_pt s = 2 → a < 40 → b < 40 → t78 (1600 * kd s + 40 * a + b) = oI (gFindN g s (a + 1) (b + 1) k)
theorem pt_nn {s : Int32} (h : et_pt s ≠ -1) : 0 ≤ s ∧ s.toNatClampNeg < 127 ∧ s = nI s.toNatClampNeg := by
  have hin := et_pt_in h
  have h0 : ¬ s < 0 := fun z => hin (Or.inl z)
  obtain ⟨j, hj, rfl⟩ := nI_of h0
  refine ⟨Int32.not_lt.mp h0, Nat.lt_of_not_le fun z => hin (Or.inr z), by rw [nI_clamp hj]⟩
theorem TB_0 {g : gr} {k : Nat} {t76 t77 t78 : Nat → Int32} (ar : gAr g) (dis : gDis g) (hk : k < gN g) (T : et_TB g k t76 t77 t78) (h0 : et_pt (gS g k) = 0) : et_TB g (k + 1) (upd t76 (gS g k).toNatClampNeg (nI (gH g k))) t77 t78 := by
  obtain ⟨T1, T2, T3⟩ := T
  have hlr : gL g k = 0 ∧ gR g k = 0 := by
    rcases ar k hk with ⟨-, a, b⟩ | ⟨a, -⟩ | ⟨a, -⟩
    · exact ⟨a, b⟩
    · rw [h0] at a; exact absurd a (by decide)
    · rw [h0] at a; exact absurd a (by decide)
  have hno : ∀ s l r, et_pt s ≠ 0 → ¬ gIs g s l r k := fun s l r hs hi => hs (by rw [← hi.1]; exact h0)
  refine ⟨fun s hs => ?_, fun s a hs ha => ?_, fun s a b hs ha hb => ?_⟩
  · rw [gFindN_step dis hk]
    by_cases e : s = gS g k
    · rw [if_pos ⟨e.symm, hlr.1, hlr.2⟩, e, pk_us]; rfl
    · rw [if_neg (fun z => e z.1.symm), pk_un, T1 s hs]
      intro z
      refine e ?_
      exact (pt_nn (s := s) (by rw [hs]; decide)).2.2.trans ((congrArg nI z).trans (pt_nn (s := gS g k) (by rw [h0]; decide)).2.2.symm)
  · rw [gFindN_step dis hk, if_neg (hno s _ _ (by rw [hs]; decide)), T2 s a hs ha]
  · rw [gFindN_step dis hk, if_neg (hno s _ _ (by rw [hs]; decide)), T3 s a b hs ha hb]
theorem TB_1 {g : gr} {k a0 : Nat} {t76 t77 t78 : Nat → Int32} (ar : gAr g) (dis : gDis g) (hk : k < gN g) (T : et_TB g k t76 t77 t78) (h0 : et_pt (gS g k) = 1) (hL : gL g k = a0 + 1) (h40 : a0 < 40) : et_TB g (k + 1) t76 (upd t77 (40 * kd (gS g k) + a0) (nI (gH g k))) t78 := by
  obtain ⟨T1, T2, T3⟩ := T
  have hR : gR g k = 0 := by
    rcases ar k hk with ⟨a, -⟩ | ⟨-, -, b⟩ | ⟨a, -⟩
    · rw [h0] at a; exact absurd a (by decide)
    · exact b
    · rw [h0] at a; exact absurd a (by decide)
  have hno : ∀ s l r, et_pt s ≠ 1 → ¬ gIs g s l r k := fun s l r hs hi => hs (by rw [← hi.1]; exact h0)
  refine ⟨fun s hs => ?_, fun s a hs ha => ?_, fun s a b hs ha hb => ?_⟩
  · rw [gFindN_step dis hk, if_neg (hno s _ _ (by rw [hs]; decide)), T1 s hs]
  · rw [gFindN_step dis hk]
    by_cases e : s = gS g k ∧ a = a0
    · obtain ⟨e1, e2⟩ := e
      rw [if_pos ⟨e1.symm, by rw [hL, e2], hR⟩, e1, e2, pk_us]; rfl
    · rw [if_neg (fun z => e ⟨z.1.symm, by have := z.2.1; rw [hL] at this; omega⟩), pk_un, T2 s a hs ha]
      intro z
      have k1 : kd s = kd (gS g k) := by omega
      exact e ⟨kd_1 hs h0 k1, by omega⟩
  · rw [gFindN_step dis hk, if_neg (hno s _ _ (by rw [hs]; decide)), T3 s a b hs ha hb]
theorem TB_2 {g : gr} {k a0 b0 : Nat} {t76 t77 t78 : Nat → Int32} (dis : gDis g) (hk : k < gN g) (T : et_TB g k t76 t77 t78) (h0 : et_pt (gS g k) = 2) (hL : gL g k = a0 + 1) (hR : gR g k = b0 + 1) (h40 : a0 < 40) (h41 : b0 < 40) : et_TB g (k + 1) t76 t77 (upd t78 (1600 * kd (gS g k) + 40 * a0 + b0) (nI (gH g k))) := by
  obtain ⟨T1, T2, T3⟩ := T
  have hno : ∀ s l r, et_pt s ≠ 2 → ¬ gIs g s l r k := fun s l r hs hi => hs (by rw [← hi.1]; exact h0)
  refine ⟨fun s hs => ?_, fun s a hs ha => ?_, fun s a b hs ha hb => ?_⟩
  · rw [gFindN_step dis hk, if_neg (hno s _ _ (by rw [hs]; decide)), T1 s hs]
  · rw [gFindN_step dis hk, if_neg (hno s _ _ (by rw [hs]; decide)), T2 s a hs ha]
  · rw [gFindN_step dis hk]
    by_cases e : s = gS g k ∧ a = a0 ∧ b = b0
    · obtain ⟨e1, e2, e3⟩ := e
      rw [if_pos ⟨e1.symm, by rw [hL, e2], by rw [hR, e3]⟩, e1, e2, e3, pk_us]; rfl
    · rw [if_neg (fun z => e ⟨z.1.symm, by have := z.2.1; rw [hL] at this; omega, by have := z.2.2; rw [hR] at this; omega⟩), pk_un, T3 s a b hs ha hb]
      intro z
      have k1 : kd s = kd (gS g k) := by omega
      have k2 : a = a0 := by omega
      exact e ⟨kd_2 hs h0 k1, k2, by omega⟩
set_option maxHeartbeats 4000000 in
set_option maxRecDepth 100000 in
theorem c_M_fillTables {sc : et_X} {h : Nat → et_MC} {d n : Nat} {th le a_ wr en al se ru un rs : Int32} {dc ds : Int64} {x : gx} {f1 f2 f3 : Nat → Int32} (G : gG 40 x.1) (h64 : h 64 = et_Mo th le a_ wr en al se ru (nI (gN x.1)) (nI (gC x.1)) un rs dc ds) (hg : et_mg x h) (h76 : h 76 = .inl (0, 128, .inl f1)) (h77 : h 77 = .inl (0, 80, .inl f2)) (h78 : h 78 = .inl (0, 4800, .inl f3)) : et_Cn sc Y_M_fillTables (d + 2) [.ref 64] h n 0 0 (fun r h' n' => r = .inl none ∧ n' = n ∧ (∀ k, (k < 76 ∨ 78 < k) → h' k = h k) ∧ ∃ t76 t77 t78, h' 76 = .inl (0, 128, .inl t76) ∧ h' 77 = .inl (0, 80, .inl t77) ∧ h' 78 = .inl (0, 4800, .inl t78) ∧ et_TB x.1 (gN x.1) t76 t77 t78) := by
  refine et_Cn.of 2 rfl rfl (by decide) mV_M_fillTables.1 ?_
  obtain ⟨b68, b69, b70, b71, b72, h68, h69, h70, h71, h72, hnode, hname⟩ := id hg
  have o1 := G.1.1
  have o2 := G.1.2.1
  have loop4 : ∀ (t i : Nat) (t76 t77 t78 : Nat → Int32) (hh : Nat → et_MC), i + t = gN x.1 → hh 76 = .inl (0, 128, .inl t76) → hh 77 = .inl (0, 80, .inl t77) → hh 78 = .inl (0, 4800, .inl t78) → (∀ k, (k < 76 ∨ 78 < k) → hh k = h k) → et_TB x.1 i t76 t77 t78 → et_M sc Y_M_fillTables (d + 2) 0 0 (fun r h' n' => r = .inl none ∧ n' = n ∧ (∀ k, (k < 76 ∨ 78 < k) → h' k = h k) ∧ ∃ t76 t77 t78, h' 76 = .inl (0, 128, .inl t76) ∧ h' 77 = .inl (0, 80, .inl t77) ∧ h' 78 = .inl (0, 4800, .inl t78) ∧ et_TB x.1 (gN x.1) t76 t77 t78) 67 [some (.ref 64), some (.int (nI i)), none] [] hh n 0 0 := by
    intro t
    induction t with
    | zero =>
      intro i t76 t77 t78 hh hi k76 k77 k78 fr T
      obtain rfl : i = gN x.1 := by omega
      have k64 := (fr 64 (by omega)).trans h64
      refine et_iload_n (i := 1) d_M_fillTables_67 rfl rfl ?_
      refine et_aload_n (i := 0) d_M_fillTables_68 rfl rfl ?_
      refine et_getf (ci := 7) 11 d_M_fillTables_69 k64 rfl in_M (by decide) fl_M_119 rfl ?_
      refine et_icmp_ge (tgt := 182) d_M_fillTables_72 (by decide) (fun _ => ?_) (fun q => absurd (nI_le (Nat.le_refl _) (by omega)) q)
      exact et_vret d_M_fillTables_182 rfl (Nat.le_refl _) (Nat.le_refl _) ⟨rfl, rfl, fr, t76, t77, t78, k76, k77, k78, T⟩
    | succ t ih =>
      intro i t76 t77 t78 hh hi k76 k77 k78 fr T
      have k64 := (fr 64 (by omega)).trans h64
      have k68 := (fr 68 (by omega)).trans h68
      have k69 := (fr 69 (by omega)).trans h69
      have k70 := (fr 70 (by omega)).trans h70
      have k71 := (fr 71 (by omega)).trans h71
      have hi' : i < gN x.1 := by omega
      obtain ⟨e1, e2, e3, e4⟩ := hnode i hi'
      obtain ⟨q1, q2, q3⟩ := G.1.2.2 i hi'
      refine et_iload_n (i := 1) d_M_fillTables_67 rfl rfl ?_
      refine et_aload_n (i := 0) d_M_fillTables_68 rfl rfl ?_
      refine et_getf (ci := 7) 11 d_M_fillTables_69 k64 rfl in_M (by decide) fl_M_119 rfl ?_
      refine et_icmp_ge (tgt := 182) d_M_fillTables_72 (by decide) (fun q => absurd q (nI_ge (by omega) (by omega))) (fun _ => ?_)
      refine et_aload_n (i := 0) d_M_fillTables_75 rfl rfl ?_
      refine et_getf (ci := 7) 13 d_M_fillTables_76 k64 rfl in_M (by decide) fl_M_23 rfl ?_
      refine et_iload_n (i := 1) d_M_fillTables_79 rfl rfl ?_
      refine et_ialn d_M_fillTables_80 k68 (by omega) (by first | decide | omega) ?_
      rw [e1]
      refine et_istore_n (i := 2) (lv' := [_, _, _]) d_M_fillTables_81 rfl (by decide) rfl rfl ?_
      refine et_iload_n (i := 2) d_M_fillTables_82 rfl rfl ?_
      refine et_invS mS_M_takes (As := [_]) rfl d_M_fillTables_83 lk_M_98 len_M_takes (Nat.le_of_ble_eq_true rfl) (c_M_takes (d := d) (gS x.1 i)) (Nat.le_refl _) (Nat.le_of_ble_eq_true rfl) (Nat.le_of_ble_eq_true rfl) (fun v h' n' hp => ?_) (fun x h' n' hp => by cases hp.1)
      obtain ⟨hv, hn2, hh2⟩ := hp
      cases hv
      subst hh2
      replace hn2 := hn2.symm
      subst hn2
      rcases G.2.2.2 i hi' with ⟨z, zl, zr⟩ | ⟨z, zl, zr⟩ | ⟨z, zl, zr⟩
      · rw [z]
        refine et_if_ne (tgt := 104) d_M_fillTables_86 (by decide) (fun q => absurd rfl q) (fun _ => ?_)
        obtain ⟨p1, p2, p3⟩ := pt_nn (s := gS x.1 i) (by rw [z]; decide)
        refine et_aload_n (i := 0) d_M_fillTables_89 rfl rfl ?_
        refine et_getf (ci := 7) 23 d_M_fillTables_90 k64 rfl in_M (by decide) fl_M_47 rfl ?_
        refine et_iload_n (i := 2) d_M_fillTables_93 rfl rfl ?_
        refine et_aload_n (i := 0) d_M_fillTables_94 rfl rfl ?_
        refine et_getf (ci := 7) 16 d_M_fillTables_95 k64 rfl in_M (by decide) fl_M_32 rfl ?_
        refine et_iload_n (i := 1) d_M_fillTables_98 rfl rfl ?_
        refine et_ialn d_M_fillTables_99 k71 (by omega) (by first | decide | omega) ?_
        rw [e4]
        refine et_iast d_M_fillTables_100 k76 (by rw [p3]; exact vp_in_nI (by omega) (by decide)) ?_
        refine et_goto (tgt := 176) d_M_fillTables_101 (by decide) ?_
        refine et_iinc (lv' := [_, _, _]) d_M_fillTables_176 rfl (v := nI (i + 1)) (nI_1 i) (by decide) rfl rfl ?_
        refine et_goto (tgt := 67) d_M_fillTables_179 (by decide) ?_
        exact et_weak et_w3a (ih (i + 1) _ t77 t78 _ (by omega) va_eq ((va_ne (by decide)).trans k77) ((va_ne (by decide)).trans k78) (fun k hk => (va_ne (by omega)).trans (fr k hk)) (TB_0 G.2.2.2 G.2.1 hi' T z))
      · obtain ⟨a0, ha0⟩ : ∃ a0, gL x.1 i = a0 + 1 := ⟨gL x.1 i - 1, by omega⟩
        have kk := kd_1le z
        rw [z]
        refine et_if_ne (tgt := 104) d_M_fillTables_86 (by decide) (fun _ => ?_) (fun q => absurd q (by decide))
        refine et_iload_n (i := 2) d_M_fillTables_104 rfl rfl ?_
        refine et_invS mS_M_takes (As := [_]) rfl d_M_fillTables_105 lk_M_98 len_M_takes (Nat.le_of_ble_eq_true rfl) (c_M_takes (d := d) (gS x.1 i)) (Nat.le_refl _) (Nat.le_of_ble_eq_true rfl) (Nat.le_of_ble_eq_true rfl) (fun v h' n' hp => ?_) (fun x h' n' hp => by cases hp.1)
        obtain ⟨hv, hn2, hh2⟩ := hp
        cases hv
        subst hh2
        replace hn2 := hn2.symm
        subst hn2
        rw [z]
        refine et_iconst (v := 1) d_M_fillTables_108 (by decide) ?_
        refine et_icmp_ne (tgt := 140) d_M_fillTables_109 (by decide) (fun q => absurd rfl q) (fun _ => ?_)
        refine et_aload_n (i := 0) d_M_fillTables_112 rfl rfl ?_
        refine et_getf (ci := 7) 24 d_M_fillTables_113 k64 rfl in_M (by decide) fl_M_50 rfl ?_
        refine et_bipush (v := nI 40) d_M_fillTables_116 (by decide) ?_
        refine et_iload_n (i := 2) d_M_fillTables_118 rfl rfl ?_
        refine et_invS mS_M_kindOf (As := [_]) rfl d_M_fillTables_119 lk_M_170 len_M_kindOf (Nat.le_of_ble_eq_true rfl) (c_M_kindOf (d := d + 1) (gS x.1 i)) (Nat.le_refl _) (Nat.le_of_ble_eq_true rfl) (Nat.le_of_ble_eq_true rfl) (fun v h' n' hp => ?_) (fun x h' n' hp => by cases hp.1)
        obtain ⟨hv, hn2, hh2⟩ := hp
        cases hv
        subst hh2
        replace hn2 := hn2.symm
        subst hn2
        refine et_imul d_M_fillTables_122 ?_
        rw [nI_mul]
        refine et_aload_n (i := 0) d_M_fillTables_123 rfl rfl ?_
        refine et_getf (ci := 7) 14 d_M_fillTables_124 k64 rfl in_M (by decide) fl_M_26 rfl ?_
        refine et_iload_n (i := 1) d_M_fillTables_127 rfl rfl ?_
        refine et_ialn d_M_fillTables_128 k69 (by omega) (by first | decide | omega) ?_
        rw [e2, ha0, eI_s]
        refine et_iadd d_M_fillTables_129 ?_
        rw [nI_add]
        refine et_aload_n (i := 0) d_M_fillTables_130 rfl rfl ?_
        refine et_getf (ci := 7) 16 d_M_fillTables_131 k64 rfl in_M (by decide) fl_M_32 rfl ?_
        refine et_iload_n (i := 1) d_M_fillTables_134 rfl rfl ?_
        refine et_ialn d_M_fillTables_135 k71 (by omega) (by first | decide | omega) ?_
        rw [e4]
        refine et_iasn d_M_fillTables_136 k77 (by omega) (by first | decide | omega) ?_
        refine et_goto (tgt := 176) d_M_fillTables_137 (by decide) ?_
        refine et_iinc (lv' := [_, _, _]) d_M_fillTables_176 rfl (v := nI (i + 1)) (nI_1 i) (by decide) rfl rfl ?_
        refine et_goto (tgt := 67) d_M_fillTables_179 (by decide) ?_
        exact et_weak et_w3a (ih (i + 1) t76 _ t78 _ (by omega) ((va_ne (by decide)).trans k76) va_eq ((va_ne (by decide)).trans k78) (fun k hk => (va_ne (by omega)).trans (fr k hk)) (TB_1 G.2.2.2 G.2.1 hi' T z ha0 (by omega)))
      · obtain ⟨a0, ha0⟩ : ∃ a0, gL x.1 i = a0 + 1 := ⟨gL x.1 i - 1, by omega⟩
        obtain ⟨b0, hb0⟩ : ∃ b0, gR x.1 i = b0 + 1 := ⟨gR x.1 i - 1, by omega⟩
        have kk := kd_le (gS x.1 i)
        rw [z]
        refine et_if_ne (tgt := 104) d_M_fillTables_86 (by decide) (fun _ => ?_) (fun q => absurd q (by decide))
        refine et_iload_n (i := 2) d_M_fillTables_104 rfl rfl ?_
        refine et_invS mS_M_takes (As := [_]) rfl d_M_fillTables_105 lk_M_98 len_M_takes (Nat.le_of_ble_eq_true rfl) (c_M_takes (d := d) (gS x.1 i)) (Nat.le_refl _) (Nat.le_of_ble_eq_true rfl) (Nat.le_of_ble_eq_true rfl) (fun v h' n' hp => ?_) (fun x h' n' hp => by cases hp.1)
        obtain ⟨hv, hn2, hh2⟩ := hp
        cases hv
        subst hh2
        replace hn2 := hn2.symm
        subst hn2
        rw [z]
        refine et_iconst (v := 1) d_M_fillTables_108 (by decide) ?_
        refine et_icmp_ne (tgt := 140) d_M_fillTables_109 (by decide) (fun _ => ?_) (fun q => absurd q (by decide))
        refine et_aload_n (i := 0) d_M_fillTables_140 rfl rfl ?_
        refine et_getf (ci := 7) 25 d_M_fillTables_141 k64 rfl in_M (by decide) fl_M_53 rfl ?_
        refine et_sipush (v := nI 1600) d_M_fillTables_144 (by decide) ?_
        refine et_iload_n (i := 2) d_M_fillTables_147 rfl rfl ?_
        refine et_invS mS_M_kindOf (As := [_]) rfl d_M_fillTables_148 lk_M_170 len_M_kindOf (Nat.le_of_ble_eq_true rfl) (c_M_kindOf (d := d + 1) (gS x.1 i)) (Nat.le_refl _) (Nat.le_of_ble_eq_true rfl) (Nat.le_of_ble_eq_true rfl) (fun v h' n' hp => ?_) (fun x h' n' hp => by cases hp.1)
        obtain ⟨hv, hn2, hh2⟩ := hp
        cases hv
        subst hh2
        replace hn2 := hn2.symm
        subst hn2
        refine et_imul d_M_fillTables_151 ?_
        rw [nI_mul]
        refine et_bipush (v := nI 40) d_M_fillTables_152 (by decide) ?_
        refine et_aload_n (i := 0) d_M_fillTables_154 rfl rfl ?_
        refine et_getf (ci := 7) 14 d_M_fillTables_155 k64 rfl in_M (by decide) fl_M_26 rfl ?_
        refine et_iload_n (i := 1) d_M_fillTables_158 rfl rfl ?_
        refine et_ialn d_M_fillTables_159 k69 (by omega) (by first | decide | omega) ?_
        rw [e2, ha0, eI_s]
        refine et_imul d_M_fillTables_160 ?_
        rw [nI_mul]
        refine et_iadd d_M_fillTables_161 ?_
        rw [nI_add]
        refine et_aload_n (i := 0) d_M_fillTables_162 rfl rfl ?_
        refine et_getf (ci := 7) 15 d_M_fillTables_163 k64 rfl in_M (by decide) fl_M_29 rfl ?_
        refine et_iload_n (i := 1) d_M_fillTables_166 rfl rfl ?_
        refine et_ialn d_M_fillTables_167 k70 (by omega) (by first | decide | omega) ?_
        rw [e3, hb0, eI_s]
        refine et_iadd d_M_fillTables_168 ?_
        rw [nI_add]
        refine et_aload_n (i := 0) d_M_fillTables_169 rfl rfl ?_
        refine et_getf (ci := 7) 16 d_M_fillTables_170 k64 rfl in_M (by decide) fl_M_32 rfl ?_
        refine et_iload_n (i := 1) d_M_fillTables_173 rfl rfl ?_
        refine et_ialn d_M_fillTables_174 k71 (by omega) (by first | decide | omega) ?_
        rw [e4]
        refine et_iasn d_M_fillTables_175 k78 (by omega) (by first | decide | omega) ?_
        refine et_iinc (lv' := [_, _, _]) d_M_fillTables_176 rfl (v := nI (i + 1)) (nI_1 i) (by decide) rfl rfl ?_
        refine et_goto (tgt := 67) d_M_fillTables_179 (by decide) ?_
        exact et_weak et_w3a (ih (i + 1) t76 t77 _ _ (by omega) ((va_ne (by decide)).trans k76) ((va_ne (by decide)).trans k77) va_eq (fun k hk => (va_ne (by omega)).trans (fr k hk)) (TB_2 G.2.1 hi' T z ha0 hb0 (by omega) (by omega)))
  have loop3 : ∀ (t i : Nat) (t76 : Nat → Int32) (t77 : Nat → Int32) (s : Nat → Int32) (hh : Nat → et_MC), i + t = 4800 → (∀ j, j < 128 → t76 j = -1) → (∀ j, j < 80 → t77 j = -1) → hh 76 = .inl (0, 128, .inl t76) → hh 77 = .inl (0, 80, .inl t77) → hh 78 = .inl (0, 4800, .inl s) → (∀ k, (k < 76 ∨ 78 < k) → hh k = h k) → (∀ j, j < i → s j = -1) → et_M sc Y_M_fillTables (d + 2) 0 0 (fun r h' n' => r = .inl none ∧ n' = n ∧ (∀ k, (k < 76 ∨ 78 < k) → h' k = h k) ∧ ∃ t76 t77 t78, h' 76 = .inl (0, 128, .inl t76) ∧ h' 77 = .inl (0, 80, .inl t77) ∧ h' 78 = .inl (0, 4800, .inl t78) ∧ et_TB x.1 (gN x.1) t76 t77 t78) 45 [some (.ref 64), some (.int (nI i)), none] [] hh n 0 0 := by
    intro t
    induction t with
    | zero =>
      intro i t76 t77 s hh hi d76 d77 k76 k77 ks fr hs
      obtain rfl : i = 4800 := by omega
      have k64 := (fr 64 (by omega)).trans h64
      refine et_iload_n (i := 1) d_M_fillTables_45 rfl rfl ?_
      refine et_sipush (v := nI 4800) d_M_fillTables_46 (by decide) ?_
      refine et_icmp_ge (tgt := 65) d_M_fillTables_49 (by decide) (fun _ => ?_) (fun q => absurd (nI_le (Nat.le_refl _) (by omega)) q)
      refine et_iconst (v := 0) d_M_fillTables_65 (by decide) ?_
      refine et_istore_n (i := 1) (lv' := [_, _, _]) d_M_fillTables_66 rfl (by decide) rfl rfl ?_
      refine loop4 (gN x.1) 0 t76 t77 s hh (by omega) k76 k77 ks fr ⟨fun s0 h0 => ?_, fun s0 a h0 ha => ?_, fun s0 a b h0 ha hb => ?_⟩
      · exact d76 _ (by have := (pt_nn (s := s0) (by rw [h0]; decide)).2.1; omega)
      · exact d77 _ (by have := kd_1le h0; omega)
      · exact hs _ (by have := kd_le s0; omega)
    | succ t ih =>
      intro i t76 t77 s hh hi d76 d77 k76 k77 ks fr hs
      have k64 := (fr 64 (by omega)).trans h64
      refine et_iload_n (i := 1) d_M_fillTables_45 rfl rfl ?_
      refine et_sipush (v := nI 4800) d_M_fillTables_46 (by decide) ?_
      refine et_icmp_ge (tgt := 65) d_M_fillTables_49 (by decide) (fun q => absurd q (nI_ge (by omega) (by omega))) (fun _ => ?_)
      refine et_aload_n (i := 0) d_M_fillTables_52 rfl rfl ?_
      refine et_getf (ci := 7) 25 d_M_fillTables_53 k64 rfl in_M (by decide) fl_M_53 rfl ?_
      refine et_iload_n (i := 1) d_M_fillTables_56 rfl rfl ?_
      refine et_iconst (v := (-1)) d_M_fillTables_57 (by decide) ?_
      refine et_iasn d_M_fillTables_58 ks (by omega) (by first | decide | omega) ?_
      refine et_iinc (lv' := [_, _, _]) d_M_fillTables_59 rfl (v := nI (i + 1)) (nI_1 i) (by decide) rfl rfl ?_
      refine et_goto (tgt := 45) d_M_fillTables_62 (by decide) ?_
      refine ih (i + 1) t76 t77 (upd s i (-1)) _ (by omega) d76 d77 ((va_ne (by decide)).trans k76) ((va_ne (by decide)).trans k77) va_eq (fun k hk => (va_ne (by omega)).trans (fr k hk)) (fun j hj => ?_)
      by_cases e : j = i
      · rw [e, pk_us]
      · rw [pk_un e]; exact hs j (by omega)
  have loop2 : ∀ (t i : Nat) (t76 : Nat → Int32) (s : Nat → Int32) (hh : Nat → et_MC), i + t = 80 → (∀ j, j < 128 → t76 j = -1) → hh 76 = .inl (0, 128, .inl t76) → hh 78 = .inl (0, 4800, .inl f3) → hh 77 = .inl (0, 80, .inl s) → (∀ k, (k < 76 ∨ 78 < k) → hh k = h k) → (∀ j, j < i → s j = -1) → et_M sc Y_M_fillTables (d + 2) 0 0 (fun r h' n' => r = .inl none ∧ n' = n ∧ (∀ k, (k < 76 ∨ 78 < k) → h' k = h k) ∧ ∃ t76 t77 t78, h' 76 = .inl (0, 128, .inl t76) ∧ h' 77 = .inl (0, 80, .inl t77) ∧ h' 78 = .inl (0, 4800, .inl t78) ∧ et_TB x.1 (gN x.1) t76 t77 t78) 24 [some (.ref 64), some (.int (nI i)), none] [] hh n 0 0 := by
    intro t
    induction t with
    | zero =>
      intro i t76 s hh hi d76 k76 k78 ks fr hs
      obtain rfl : i = 80 := by omega
      have k64 := (fr 64 (by omega)).trans h64
      refine et_iload_n (i := 1) d_M_fillTables_24 rfl rfl ?_
      refine et_bipush (v := nI 80) d_M_fillTables_25 (by decide) ?_
      refine et_icmp_ge (tgt := 43) d_M_fillTables_27 (by decide) (fun _ => ?_) (fun q => absurd (nI_le (Nat.le_refl _) (by omega)) q)
      refine et_iconst (v := 0) d_M_fillTables_43 (by decide) ?_
      refine et_istore_n (i := 1) (lv' := [_, _, _]) d_M_fillTables_44 rfl (by decide) rfl rfl ?_
      exact loop3 4800 0 t76 s f3 hh (by omega) d76 hs k76 ks k78 fr (fun j hj => absurd hj (Nat.not_lt_zero _))
    | succ t ih =>
      intro i t76 s hh hi d76 k76 k78 ks fr hs
      have k64 := (fr 64 (by omega)).trans h64
      refine et_iload_n (i := 1) d_M_fillTables_24 rfl rfl ?_
      refine et_bipush (v := nI 80) d_M_fillTables_25 (by decide) ?_
      refine et_icmp_ge (tgt := 43) d_M_fillTables_27 (by decide) (fun q => absurd q (nI_ge (by omega) (by omega))) (fun _ => ?_)
      refine et_aload_n (i := 0) d_M_fillTables_30 rfl rfl ?_
      refine et_getf (ci := 7) 24 d_M_fillTables_31 k64 rfl in_M (by decide) fl_M_50 rfl ?_
      refine et_iload_n (i := 1) d_M_fillTables_34 rfl rfl ?_
      refine et_iconst (v := (-1)) d_M_fillTables_35 (by decide) ?_
      refine et_iasn d_M_fillTables_36 ks (by omega) (by first | decide | omega) ?_
      refine et_iinc (lv' := [_, _, _]) d_M_fillTables_37 rfl (v := nI (i + 1)) (nI_1 i) (by decide) rfl rfl ?_
      refine et_goto (tgt := 24) d_M_fillTables_40 (by decide) ?_
      refine ih (i + 1) t76 (upd s i (-1)) _ (by omega) d76 ((va_ne (by decide)).trans k76) ((va_ne (by decide)).trans k78) va_eq (fun k hk => (va_ne (by omega)).trans (fr k hk)) (fun j hj => ?_)
      by_cases e : j = i
      · rw [e, pk_us]
      · rw [pk_un e]; exact hs j (by omega)
  have loop1 : ∀ (t i : Nat)  (s : Nat → Int32) (hh : Nat → et_MC), i + t = 128 → hh 77 = .inl (0, 80, .inl f2) → hh 78 = .inl (0, 4800, .inl f3) → hh 76 = .inl (0, 128, .inl s) → (∀ k, (k < 76 ∨ 78 < k) → hh k = h k) → (∀ j, j < i → s j = -1) → et_M sc Y_M_fillTables (d + 2) 0 0 (fun r h' n' => r = .inl none ∧ n' = n ∧ (∀ k, (k < 76 ∨ 78 < k) → h' k = h k) ∧ ∃ t76 t77 t78, h' 76 = .inl (0, 128, .inl t76) ∧ h' 77 = .inl (0, 80, .inl t77) ∧ h' 78 = .inl (0, 4800, .inl t78) ∧ et_TB x.1 (gN x.1) t76 t77 t78) 2 [some (.ref 64), some (.int (nI i)), none] [] hh n 0 0 := by
    intro t
    induction t with
    | zero =>
      intro i  s hh hi k77 k78 ks fr hs
      obtain rfl : i = 128 := by omega
      have k64 := (fr 64 (by omega)).trans h64
      refine et_iload_n (i := 1) d_M_fillTables_2 rfl rfl ?_
      refine et_sipush (v := nI 128) d_M_fillTables_3 (by decide) ?_
      refine et_icmp_ge (tgt := 22) d_M_fillTables_6 (by decide) (fun _ => ?_) (fun q => absurd (nI_le (Nat.le_refl _) (by omega)) q)
      refine et_iconst (v := 0) d_M_fillTables_22 (by decide) ?_
      refine et_istore_n (i := 1) (lv' := [_, _, _]) d_M_fillTables_23 rfl (by decide) rfl rfl ?_
      exact loop2 80 0 s f2 hh (by omega) hs ks k78 k77 fr (fun j hj => absurd hj (Nat.not_lt_zero _))
    | succ t ih =>
      intro i  s hh hi k77 k78 ks fr hs
      have k64 := (fr 64 (by omega)).trans h64
      refine et_iload_n (i := 1) d_M_fillTables_2 rfl rfl ?_
      refine et_sipush (v := nI 128) d_M_fillTables_3 (by decide) ?_
      refine et_icmp_ge (tgt := 22) d_M_fillTables_6 (by decide) (fun q => absurd q (nI_ge (by omega) (by omega))) (fun _ => ?_)
      refine et_aload_n (i := 0) d_M_fillTables_9 rfl rfl ?_
      refine et_getf (ci := 7) 23 d_M_fillTables_10 k64 rfl in_M (by decide) fl_M_47 rfl ?_
      refine et_iload_n (i := 1) d_M_fillTables_13 rfl rfl ?_
      refine et_iconst (v := (-1)) d_M_fillTables_14 (by decide) ?_
      refine et_iasn d_M_fillTables_15 ks (by omega) (by first | decide | omega) ?_
      refine et_iinc (lv' := [_, _, _]) d_M_fillTables_16 rfl (v := nI (i + 1)) (nI_1 i) (by decide) rfl rfl ?_
      refine et_goto (tgt := 2) d_M_fillTables_19 (by decide) ?_
      refine ih (i + 1)  (upd s i (-1)) _ (by omega) ((va_ne (by decide)).trans k77) ((va_ne (by decide)).trans k78) va_eq (fun k hk => (va_ne (by omega)).trans (fr k hk)) (fun j hj => ?_)
      by_cases e : j = i
      · rw [e, pk_us]
      · rw [pk_un e]; exact hs j (by omega)
  refine et_iconst (v := 0) d_M_fillTables_0 (by decide) ?_
  refine et_istore_n (i := 1) (lv' := [_, _, _]) d_M_fillTables_1 rfl (by decide) rfl rfl ?_
  exact loop1 128 0 f1 h (by omega) h77 h78 h76 (fun _ _ => rfl) (fun j hj => absurd hj (Nat.not_lt_zero _))
