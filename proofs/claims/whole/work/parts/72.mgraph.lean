/-! ===== the model's graph ===== -/
/-- the graph in the model's cells -/
def et_mg (x : gx) (h : Nat → et_MC) : Prop := ∃ b68 b69 b70 b71 b72 : Nat → Int32, h 68 = .inl (0, 104, .inl b68) ∧ h 69 = .inl (0, 104, .inl b69) ∧ h 70 = .inl (0, 104, .inl b70) ∧ h 71 = .inl (0, 104, .inl b71) ∧ h 72 = .inl (0, 104, .inl b72) ∧
  (∀ n, n < gN x.1 → b68 n = gS x.1 n ∧ b69 n = eI (gL x.1 n) ∧ b70 n = eI (gR x.1 n) ∧ b71 n = nI (gH x.1 n)) ∧ ∀ c, c < gC x.1 → b72 c = nI (x.2 c)
/-- the cells beside the model's object and graph -/
def et_m72 (h h' : Nat → et_MC) : Prop := ∀ k, (k < 64 ∨ (64 < k ∧ k < 68) ∨ 72 < k) → h' k = h k
theorem et_mg.same {x : gx} {h h' : Nat → et_MC} (g : et_mg x h) (e : ∀ k, 68 ≤ k → k ≤ 72 → h' k = h k) : et_mg x h' := by
  obtain ⟨b68, b69, b70, b71, b72, h68, h69, h70, h71, h72, r⟩ := g
  exact ⟨b68, b69, b70, b71, b72, (e 68 (by decide) (by decide)).trans h68, (e 69 (by decide) (by decide)).trans h69, (e 70 (by decide) (by decide)).trans h70, (e 71 (by decide) (by decide)).trans h71, (e 72 (by decide) (by decide)).trans h72, r⟩
theorem nI_mul (a b : Nat) : nI a * nI b = nI (a * b) := (Int32.ofNat_mul a b).symm
theorem nI_n0 {k : Nat} (hk : k < 2 ^ 31) : ¬ nI k < 0 := fun q => absurd (show nI k < nI 0 by rw [nI_0]; exact q) (nI_nlt (by omega) (by omega))
set_option maxHeartbeats 4000000 in
set_option maxRecDepth 100000 in
theorem c_M_findNode {sc : et_X} {h : Nat → et_MC} {d n : Nat} {th le a_ wr en al se ru un rs : Int32} {dc ds : Int64} {x : gx} (s : Int32) (l r : Nat) (ok : gOk 104 x.1) (hl : l < 2 ^ 31) (hr : r < 2 ^ 31) (h64 : h 64 = et_Mo th le a_ wr en al se ru (nI (gN x.1)) (nI (gC x.1)) un rs dc ds) (hg : et_mg x h) : et_Cn sc Y_M_findNode d [.ref 64, .int s, .int (eI l), .int (eI r)] h n 0 0 (fun r0 h' n' => n' = n ∧ h' = h ∧ ((∃ k, k < gN x.1 ∧ gIs x.1 s l r k ∧ (∀ j, j < k → ¬ gIs x.1 s l r j) ∧ r0 = .inl (some (.int (nI k)))) ∨ ((∀ k, k < gN x.1 → ¬ gIs x.1 s l r k) ∧ r0 = .inl (some (.int (-1)))))) := by
  refine et_Cn.of 1 rfl rfl (by decide) mV_M_findNode.1 ?_
  obtain ⟨b68, b69, b70, b71, b72, h68, h69, h70, h71, h72, hnode, hname⟩ := id hg
  obtain ⟨ok1, ok2, ok3⟩ := ok
  have loop : ∀ (t i : Nat), i + t = gN x.1 → (∀ j, j < i → ¬ gIs x.1 s l r j) → et_M sc Y_M_findNode d 0 0 (fun r0 h' n' => n' = n ∧ h' = h ∧ ((∃ k, k < gN x.1 ∧ gIs x.1 s l r k ∧ (∀ j, j < k → ¬ gIs x.1 s l r j) ∧ r0 = .inl (some (.int (nI k)))) ∨ ((∀ k, k < gN x.1 → ¬ gIs x.1 s l r k) ∧ r0 = .inl (some (.int (-1)))))) 3 [some (.ref 64), some (.int s), some (.int (eI l)), some (.int (eI r)), some (.int (nI i))] [] h n 0 0 := by
    intro t
    induction t with
    | zero =>
      intro i hi hno
      obtain rfl : i = gN x.1 := by omega
      refine et_iload d_M_findNode_3 rfl ?_
      refine et_aload_n (i := 0) d_M_findNode_5 rfl rfl ?_
      refine et_getf (ci := 7) 11 d_M_findNode_6 h64 rfl in_M (by decide) fl_M_119 rfl ?_
      refine et_icmp_ge (tgt := 54) d_M_findNode_9 (by decide) (fun _ => ?_) (fun q => absurd (nI_le (Nat.le_refl _) (by omega)) q)
      refine et_iconst (v := (-1)) d_M_findNode_54 (by decide) ?_
      exact et_iret d_M_findNode_55 rfl (Nat.le_of_ble_eq_true rfl) (Nat.le_of_ble_eq_true rfl) ⟨rfl, rfl, Or.inr ⟨hno, rfl⟩⟩
    | succ t ih =>
      intro i hi hno
      obtain ⟨e1, e2, e3, e4⟩ := hnode i (by omega)
      obtain ⟨o1, o2, o3⟩ := ok3 i (by omega)
      have nxt : ¬ gIs x.1 s l r i → et_M sc Y_M_findNode d 0 0 (fun r0 h' n' => n' = n ∧ h' = h ∧ ((∃ k, k < gN x.1 ∧ gIs x.1 s l r k ∧ (∀ j, j < k → ¬ gIs x.1 s l r j) ∧ r0 = .inl (some (.int (nI k)))) ∨ ((∀ k, k < gN x.1 → ¬ gIs x.1 s l r k) ∧ r0 = .inl (some (.int (-1)))))) 48 [some (.ref 64), some (.int s), some (.int (eI l)), some (.int (eI r)), some (.int (nI i))] [] h n 0 0 := by
        intro hn
        refine et_iinc (lv' := [_, _, _, _, _]) d_M_findNode_48 rfl (v := nI (i + 1)) (nI_1 i) (by decide) rfl rfl ?_
        refine et_goto (tgt := 3) d_M_findNode_51 (by decide) ?_
        refine ih (i + 1) (by omega) (fun j hj => ?_)
        by_cases e : j = i
        · rw [e]; exact hn
        · exact hno j (by omega)
      refine et_iload d_M_findNode_3 rfl ?_
      refine et_aload_n (i := 0) d_M_findNode_5 rfl rfl ?_
      refine et_getf (ci := 7) 11 d_M_findNode_6 h64 rfl in_M (by decide) fl_M_119 rfl ?_
      refine et_icmp_ge (tgt := 54) d_M_findNode_9 (by decide) (fun q => absurd q (nI_ge (by omega) (by omega))) (fun _ => ?_)
      refine et_aload_n (i := 0) d_M_findNode_12 rfl rfl ?_
      refine et_getf (ci := 7) 13 d_M_findNode_13 h64 rfl in_M (by decide) fl_M_23 rfl ?_
      refine et_iload d_M_findNode_16 rfl ?_
      refine et_ialn d_M_findNode_18 h68 (by omega) (by first | decide | omega) ?_
      refine et_iload_n (i := 1) d_M_findNode_19 rfl rfl ?_
      rw [e1]
      refine et_icmp_ne (tgt := 48) d_M_findNode_20 (by decide) (fun q => ?_) (fun q => ?_)
      · exact nxt fun z => q z.1
      have q1 := q
      refine et_aload_n (i := 0) d_M_findNode_23 rfl rfl ?_
      refine et_getf (ci := 7) 14 d_M_findNode_24 h64 rfl in_M (by decide) fl_M_26 rfl ?_
      refine et_iload d_M_findNode_27 rfl ?_
      refine et_ialn d_M_findNode_29 h69 (by omega) (by first | decide | omega) ?_
      refine et_iload_n (i := 2) d_M_findNode_30 rfl rfl ?_
      rw [e2]
      refine et_icmp_ne (tgt := 48) d_M_findNode_31 (by decide) (fun q => ?_) (fun q => ?_)
      · exact nxt fun z => q (by rw [z.2.1])
      have q2 := (eI_eq (by omega) hl).mp q
      refine et_aload_n (i := 0) d_M_findNode_34 rfl rfl ?_
      refine et_getf (ci := 7) 15 d_M_findNode_35 h64 rfl in_M (by decide) fl_M_29 rfl ?_
      refine et_iload d_M_findNode_38 rfl ?_
      refine et_ialn d_M_findNode_40 h70 (by omega) (by first | decide | omega) ?_
      refine et_iload_n (i := 3) d_M_findNode_41 rfl rfl ?_
      rw [e3]
      refine et_icmp_ne (tgt := 48) d_M_findNode_42 (by decide) (fun q => ?_) (fun q => ?_)
      · exact nxt fun z => q (by rw [z.2.2])
      have q3 := (eI_eq (by omega) hr).mp q
      refine et_iload d_M_findNode_45 rfl ?_
      exact et_iret d_M_findNode_47 rfl (Nat.le_of_ble_eq_true rfl) (Nat.le_of_ble_eq_true rfl) ⟨rfl, rfl, Or.inl ⟨i, by omega, ⟨q1, q2, q3⟩, hno, rfl⟩⟩
  refine et_iconst (v := 0) d_M_findNode_0 (by decide) ?_
  refine et_istore (lv' := [_, _, _, _, _]) d_M_findNode_1 (by decide) rfl rfl ?_
  exact loop (gN x.1) 0 (by omega) (fun j hj => absurd hj (Nat.not_lt_zero _))
set_option maxHeartbeats 4000000 in
set_option maxRecDepth 100000 in
theorem c_M_classOf {sc : et_X} {h : Nat → et_MC} {d n : Nat} {th le a_ wr en al se ru un rs : Int32} {dc ds : Int64} {x : gx} (gw : Bool) (s : Int32) (l r : Nat) (ok : gOk 103 x.1) (hl : l < 2 ^ 31) (hr : r < 2 ^ 31) (h64 : h 64 = et_Mo th le a_ wr en al se ru (nI (gN x.1)) (nI (gC x.1)) un rs dc ds) (hg : et_mg x h) : et_Cn sc Y_M_classOf (d + 1) [.ref 64, .int s, .int (eI l), .int (eI r), .int (bI gw)] h n 0 0 (fun r0 h' n' => n' = n ∧ et_m72 h h' ∧ ((∃ c x', gHome gw 1000 x s l r = some (c, x') ∧ r0 = .inl (some (.int (nI c))) ∧ h' 64 = et_Mo th le a_ wr en al se ru (nI (gN x'.1)) (nI (gC x'.1)) un rs dc ds ∧ et_mg x' h') ∨ (gHome gw 1000 x s l r = none ∧ r0 = .inl (some (.int (-1))) ∧ h' = h))) := by
  refine et_Cn.of 1 rfl rfl (by decide) mV_M_classOf.1 ?_
  obtain ⟨b68, b69, b70, b71, b72, h68, h69, h70, h71, h72, hnode, hname⟩ := id hg
  have ok9 : gOk 104 x.1 := ⟨by have := ok.1; omega, ok.2⟩
  obtain ⟨ok1, ok2, ok3⟩ := ok
  refine et_aload_n (i := 0) d_M_classOf_0 rfl rfl ?_
  refine et_iload_n (i := 1) d_M_classOf_1 rfl rfl ?_
  refine et_iload_n (i := 2) d_M_classOf_2 rfl rfl ?_
  refine et_iload_n (i := 3) d_M_classOf_3 rfl rfl ?_
  refine et_invV mV_M_findNode (As := [_, _, _]) rfl d_M_classOf_4 lk_M_122 len_M_findNode h64 rfl (Nat.le_of_ble_eq_true rfl) (c_M_findNode (d := d) s l r ok9 hl hr h64 hg) (Nat.le_refl _) (Nat.le_of_ble_eq_true rfl) (Nat.le_of_ble_eq_true rfl) (fun v h' n' hp => ?_) (fun x h' n' hp => by rcases hp.2.2 with ⟨k, -, -, -, e⟩ | ⟨-, e⟩ <;> cases e)
  obtain ⟨hn2, hh2, hres⟩ := hp
  subst hh2
  replace hn2 := hn2.symm
  subst hn2
  rcases hres with ⟨k, k1, k2, k3, hv⟩ | ⟨k1, hv⟩
  · cases hv
    obtain ⟨e1, e2, e3, e4⟩ := hnode k k1
    refine et_istore (lv' := [_, _, _, _, _, _]) d_M_classOf_7 (by decide) rfl rfl ?_
    refine et_iload d_M_classOf_9 rfl ?_
    refine et_if_lt (tgt := 22) d_M_classOf_11 (by decide) (fun q => absurd q (nI_n0 (by omega))) (fun _ => ?_)
    refine et_aload_n (i := 0) d_M_classOf_14 rfl rfl ?_
    refine et_getf (ci := 7) 16 d_M_classOf_15 h64 rfl in_M (by decide) fl_M_32 rfl ?_
    refine et_iload d_M_classOf_18 rfl ?_
    refine et_ialn d_M_classOf_20 h71 (by omega) (by first | decide | omega) ?_
    rw [e4]
    exact et_iret d_M_classOf_21 rfl (Nat.le_of_ble_eq_true rfl) (Nat.le_of_ble_eq_true rfl) ⟨rfl, fun _ _ => rfl, Or.inl ⟨gH x.1 k, x, by unfold gHome gFind; rw [gFindN_some k2 k3 k1], rfl, h64, hg⟩⟩
  · cases hv
    have hno : gFind x.1 s l r = none := gFindN_none.mpr k1
    refine et_istore (lv' := [_, _, _, _, _, _]) d_M_classOf_7 (by decide) rfl rfl ?_
    refine et_iload d_M_classOf_9 rfl ?_
    refine et_if_lt (tgt := 22) d_M_classOf_11 (by decide) (fun _ => ?_) (fun q => absurd (by decide) q)
    refine et_iload d_M_classOf_22 rfl ?_
    cases gw with
    | false =>
      refine et_if_ne (tgt := 29) d_M_classOf_24 (by decide) (fun q => absurd rfl q) (fun _ => ?_)
      refine et_iconst (v := (-1)) d_M_classOf_27 (by decide) ?_
      exact et_iret d_M_classOf_28 rfl (Nat.le_of_ble_eq_true rfl) (Nat.le_of_ble_eq_true rfl) ⟨rfl, fun _ _ => rfl, Or.inr ⟨by unfold gHome; rw [hno]; exact if_neg (by rintro ⟨q, -⟩; cases q), rfl, rfl⟩⟩
    | true =>
      refine et_if_ne (tgt := 29) d_M_classOf_24 (by decide) (fun _ => ?_) (fun q => absurd q (by decide))
      refine et_aload_n (i := 0) d_M_classOf_29 rfl rfl ?_
      refine et_getf (ci := 7) 13 d_M_classOf_30 h64 rfl in_M (by decide) fl_M_23 rfl ?_
      refine et_aload_n (i := 0) d_M_classOf_33 rfl rfl ?_
      refine et_getf (ci := 7) 11 d_M_classOf_34 h64 rfl in_M (by decide) fl_M_119 rfl ?_
      refine et_iload_n (i := 1) d_M_classOf_37 rfl rfl ?_
      refine et_iasn d_M_classOf_38 h68 (by omega) (by first | decide | omega) ?_
      refine et_aload_n (i := 0) d_M_classOf_39 rfl rfl ?_
      refine et_getf (ci := 7) 14 d_M_classOf_40 h64 rfl in_M (by decide) fl_M_26 rfl ?_
      refine et_aload_n (i := 0) d_M_classOf_43 rfl rfl ?_
      refine et_getf (ci := 7) 11 d_M_classOf_44 h64 rfl in_M (by decide) fl_M_119 rfl ?_
      refine et_iload_n (i := 2) d_M_classOf_47 rfl rfl ?_
      refine et_iasn d_M_classOf_48 h69 (by omega) (by first | decide | omega) ?_
      refine et_aload_n (i := 0) d_M_classOf_49 rfl rfl ?_
      refine et_getf (ci := 7) 15 d_M_classOf_50 h64 rfl in_M (by decide) fl_M_29 rfl ?_
      refine et_aload_n (i := 0) d_M_classOf_53 rfl rfl ?_
      refine et_getf (ci := 7) 11 d_M_classOf_54 h64 rfl in_M (by decide) fl_M_119 rfl ?_
      refine et_iload_n (i := 3) d_M_classOf_57 rfl rfl ?_
      refine et_iasn d_M_classOf_58 h70 (by omega) (by first | decide | omega) ?_
      refine et_aload_n (i := 0) d_M_classOf_59 rfl rfl ?_
      refine et_getf (ci := 7) 16 d_M_classOf_60 h64 rfl in_M (by decide) fl_M_32 rfl ?_
      refine et_aload_n (i := 0) d_M_classOf_63 rfl rfl ?_
      refine et_getf (ci := 7) 11 d_M_classOf_64 h64 rfl in_M (by decide) fl_M_119 rfl ?_
      refine et_aload_n (i := 0) d_M_classOf_67 rfl rfl ?_
      refine et_getf (ci := 7) 12 d_M_classOf_68 h64 rfl in_M (by decide) fl_M_126 rfl ?_
      refine et_iasn d_M_classOf_71 h71 (by omega) (by first | decide | omega) ?_
      refine et_aload_n (i := 0) d_M_classOf_72 rfl rfl ?_
      refine et_getf (ci := 7) 17 d_M_classOf_73 h64 rfl in_M (by decide) fl_M_35 rfl ?_
      refine et_aload_n (i := 0) d_M_classOf_76 rfl rfl ?_
      refine et_getf (ci := 7) 12 d_M_classOf_77 h64 rfl in_M (by decide) fl_M_126 rfl ?_
      refine et_aload_n (i := 0) d_M_classOf_80 rfl rfl ?_
      refine et_getf (ci := 7) 12 d_M_classOf_81 h64 rfl in_M (by decide) fl_M_126 rfl ?_
      refine et_iasn d_M_classOf_84 h72 (by omega) (by first | decide | omega) ?_
      refine et_aload_n (i := 0) d_M_classOf_85 rfl rfl ?_
      refine et_dup d_M_classOf_86 rfl ?_
      refine et_getf (ci := 7) 11 d_M_classOf_87 h64 rfl in_M (by decide) fl_M_119 rfl ?_
      refine et_iconst (v := 1) d_M_classOf_90 (by decide) ?_
      refine et_iadd d_M_classOf_91 ?_
      rw [nI_1]
      refine et_putf (ci := 7) 11 d_M_classOf_92 h64 rfl in_M ty_M nm_M (by decide) fl_M_119 rfl rfl (fun _ => rfl) (fun _ => rfl) (Nat.le_of_ble_eq_true rfl) (fs' := [_, _, _, _, _, _, _, _, _, _, _, _, _, _, _, _, _, _, _, _, _, _, _, _, _, _, _, _, _, _, _, _, _]) rfl ?_
      refine et_aload_n (i := 0) d_M_classOf_95 rfl rfl ?_
      refine et_dup d_M_classOf_96 rfl ?_
      refine et_getf (ci := 7) 12 d_M_classOf_97 rfl rfl in_M (by decide) fl_M_126 rfl ?_
      refine et_iconst (v := 1) d_M_classOf_100 (by decide) ?_
      refine et_iadd d_M_classOf_101 ?_
      rw [nI_1]
      refine et_putf (ci := 7) 12 d_M_classOf_102 rfl rfl in_M ty_M nm_M (by decide) fl_M_126 rfl rfl (fun _ => rfl) (fun _ => rfl) (Nat.le_of_ble_eq_true rfl) (fs' := [_, _, _, _, _, _, _, _, _, _, _, _, _, _, _, _, _, _, _, _, _, _, _, _, _, _, _, _, _, _, _, _, _]) rfl ?_
      refine et_aload_n (i := 0) d_M_classOf_105 rfl rfl ?_
      refine et_getf (ci := 7) 12 d_M_classOf_106 rfl rfl in_M (by decide) fl_M_126 rfl ?_
      refine et_iconst (v := 1) d_M_classOf_109 (by decide) ?_
      refine et_isub d_M_classOf_110 ?_
      rw [nI_pred]
      refine et_iret d_M_classOf_111 rfl (Nat.le_refl _) (Nat.le_refl _) ⟨rfl, fun k hk => by simp [va_up, show k ≠ 64 by omega, show k ≠ 68 by omega, show k ≠ 69 by omega, show k ≠ 70 by omega, show k ≠ 71 by omega, show k ≠ 72 by omega], Or.inl ⟨gC x.1, gAdd x s l r, by unfold gHome; rw [hno]; exact if_pos ⟨rfl, by omega⟩, rfl, rfl, _, _, _, _, _, rfl, rfl, rfl, rfl, rfl, fun q hq => ?_, fun c hc => ?_⟩⟩
      · have hq : q < gN x.1 + 1 := hq
        show upd b68 (gN x.1) s q = gUp (gS x.1) (gN x.1) s q ∧ upd b69 (gN x.1) (eI l) q = eI (gUp (gL x.1) (gN x.1) l q) ∧ upd b70 (gN x.1) (eI r) q = eI (gUp (gR x.1) (gN x.1) r q) ∧ upd b71 (gN x.1) (nI (gC x.1)) q = nI (gUp (gH x.1) (gN x.1) (gC x.1) q)
        by_cases e : q = gN x.1
        · subst e
          rw [pk_us, pk_us, pk_us, pk_us, gUp_s, gUp_s, gUp_s, gUp_s]
          exact ⟨rfl, rfl, rfl, rfl⟩
        · rw [pk_un e, pk_un e, pk_un e, pk_un e, gUp_n _ _ e, gUp_n _ _ e, gUp_n _ _ e, gUp_n _ _ e]
          exact hnode q (by omega)
      · have hc : c < gC x.1 + 1 := hc
        show upd b72 (gC x.1) (nI (gC x.1)) c = nI (gUp x.2 (gC x.1) (gC x.1) c)
        by_cases e : c = gC x.1
        · subst e
          rw [pk_us, gUp_s]
        · rw [pk_un e, gUp_n _ _ e]
          exact hname c (by omega)
