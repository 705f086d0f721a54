set_option maxHeartbeats 4000000 in
set_option maxRecDepth 100000 in
theorem c_M_joinClasses {sc : et_X} {h : Nat → et_MC} {d n : Nat} {th le a_ wr en al se ru rs : Int32} {dc ds : Int64} {x : gx} (u : Bool) (a b : Nat) (hC : gC x.1 ≤ 104) (nok : nOk x) (ha : a < gC x.1) (hb : b < gC x.1) (h64 : h 64 = et_Mo th le a_ wr en al se ru (nI (gN x.1)) (nI (gC x.1)) (bI u) rs dc ds) (hg : et_mg x h) : et_Cn sc Y_M_joinClasses d [.ref 64, .int (nI a), .int (nI b)] h n 0 0 (fun r h' n' => r = .inl none ∧ n' = n ∧ (∀ k, k ≠ 64 → k ≠ 72 → h' k = h k) ∧ h' 64 = et_Mo th le a_ wr en al se ru (nI (gN x.1)) (nI (gC x.1)) (bI (u || decide (x.2 a ≠ x.2 b))) rs dc ds ∧ et_mg (gJoin x a b) h') := by
  refine et_Cn.of 3 rfl rfl (by decide) mV_M_joinClasses.1 ?_
  obtain ⟨b68, b69, b70, b71, b72, h68, h69, h70, h71, h72, hnode, hname⟩ := id hg
  have na := nok a ha
  have nb := nok b hb
  have loop : ∀ (t i : Nat) (g72 : Nat → Int32) (hh : Nat → et_MC), i + t = gC x.1 → hh 64 = et_Mo th le a_ wr en al se ru (nI (gN x.1)) (nI (gC x.1)) (bI (u || decide (x.2 a ≠ x.2 b))) rs dc ds → hh 72 = .inl (0, 104, .inl g72) → (∀ k, k ≠ 64 → k ≠ 72 → hh k = h k) → (∀ c, c < gC x.1 → g72 c = nI (if c < i then (gJoin x a b).2 c else x.2 c)) → et_M sc Y_M_joinClasses d 0 0 (fun r h' n' => r = .inl none ∧ n' = n ∧ (∀ k, k ≠ 64 → k ≠ 72 → h' k = h k) ∧ h' 64 = et_Mo th le a_ wr en al se ru (nI (gN x.1)) (nI (gC x.1)) (bI (u || decide (x.2 a ≠ x.2 b))) rs dc ds ∧ et_mg (gJoin x a b) h') 40 [some (.ref 64), some (.int (nI a)), some (.int (nI b)), some (.int (nI (x.2 a))), some (.int (nI (x.2 b))), some (.int (nI i))] [] hh n 0 0 := by
    intro t
    induction t with
    | zero =>
      intro i g72 hh hi k64 k72 fr hl
      obtain rfl : i = gC x.1 := by omega
      refine et_iload d_M_joinClasses_40 rfl ?_
      refine et_aload_n (i := 0) d_M_joinClasses_42 rfl rfl ?_
      refine et_getf (ci := 7) 12 d_M_joinClasses_43 k64 rfl in_M (by decide) fl_M_126 rfl ?_
      refine et_icmp_ge (tgt := 85) d_M_joinClasses_46 (by decide) (fun _ => ?_) (fun q => absurd (nI_le (Nat.le_refl _) (by omega)) q)
      exact et_vret d_M_joinClasses_85 rfl (Nat.le_refl _) (Nat.le_refl _) ⟨rfl, rfl, fr, k64, b68, b69, b70, b71, g72, (fr 68 (by decide) (by decide)).trans h68, (fr 69 (by decide) (by decide)).trans h69, (fr 70 (by decide) (by decide)).trans h70, (fr 71 (by decide) (by decide)).trans h71, k72, hnode, fun c hc => by rw [hl c hc, if_pos (show c < gC x.1 from hc)]⟩
    | succ t ih =>
      intro i g72 hh hi k64 k72 fr hl
      have ni := nok i (by omega)
      have e1 : g72 i = nI (x.2 i) := by rw [hl i (by omega), if_neg (Nat.lt_irrefl _)]
      have fin : ∀ v : Int32, v = nI ((gJoin x a b).2 i) → et_M sc Y_M_joinClasses d 0 0 (fun r h' n' => r = .inl none ∧ n' = n ∧ (∀ k, k ≠ 64 → k ≠ 72 → h' k = h k) ∧ h' 64 = et_Mo th le a_ wr en al se ru (nI (gN x.1)) (nI (gC x.1)) (bI (u || decide (x.2 a ≠ x.2 b))) rs dc ds ∧ et_mg (gJoin x a b) h') 78 [some (.ref 64), some (.int (nI a)), some (.int (nI b)), some (.int (nI (x.2 a))), some (.int (nI (x.2 b))), some (.int (nI i))] [.int v, .int (nI i), .ref 72] hh n 0 0 := by
        intro v hv
        refine et_iasn d_M_joinClasses_78 k72 (by omega) (by first | decide | omega) ?_
        refine et_iinc (lv' := [_, _, _, _, _, _]) d_M_joinClasses_79 rfl (v := nI (i + 1)) (nI_1 i) (by decide) rfl rfl ?_
        refine et_goto (tgt := 40) d_M_joinClasses_82 (by decide) ?_
        refine ih (i + 1) (upd g72 i v) _ (by omega) ((va_ne (by decide)).trans k64) va_eq (fun k e1 e2 => (va_ne e2).trans (fr k e1 e2)) (fun c hc => ?_)
        by_cases e : c = i
        · rw [e, pk_us, if_pos (Nat.lt_succ_self _), hv]
        · rw [pk_un e, hl c hc]
          by_cases e2 : c < i
          · rw [if_pos e2, if_pos (by omega)]
          · rw [if_neg e2, if_neg (by omega)]
      refine et_iload d_M_joinClasses_40 rfl ?_
      refine et_aload_n (i := 0) d_M_joinClasses_42 rfl rfl ?_
      refine et_getf (ci := 7) 12 d_M_joinClasses_43 k64 rfl in_M (by decide) fl_M_126 rfl ?_
      refine et_icmp_ge (tgt := 85) d_M_joinClasses_46 (by decide) (fun q => absurd q (nI_ge (by omega) (by omega))) (fun _ => ?_)
      refine et_aload_n (i := 0) d_M_joinClasses_49 rfl rfl ?_
      refine et_getf (ci := 7) 17 d_M_joinClasses_50 k64 rfl in_M (by decide) fl_M_35 rfl ?_
      refine et_iload d_M_joinClasses_53 rfl ?_
      refine et_aload_n (i := 0) d_M_joinClasses_55 rfl rfl ?_
      refine et_getf (ci := 7) 17 d_M_joinClasses_56 k64 rfl in_M (by decide) fl_M_35 rfl ?_
      refine et_iload d_M_joinClasses_59 rfl ?_
      refine et_ialn d_M_joinClasses_61 k72 (by omega) (by first | decide | omega) ?_
      refine et_iload d_M_joinClasses_62 rfl ?_
      rw [e1]
      refine et_icmp_ne (tgt := 71) d_M_joinClasses_64 (by decide) (fun q => ?_) (fun q => ?_)
      · refine et_aload_n (i := 0) d_M_joinClasses_71 rfl rfl ?_
        refine et_getf (ci := 7) 17 d_M_joinClasses_72 k64 rfl in_M (by decide) fl_M_35 rfl ?_
        refine et_iload d_M_joinClasses_75 rfl ?_
        refine et_ialn d_M_joinClasses_77 k72 (by omega) (by first | decide | omega) ?_
        exact fin _ (by rw [e1]; show _ = nI (if x.2 i = x.2 b then x.2 a else x.2 i); rw [if_neg (fun z => q (by rw [z]))])
      · have q2 : x.2 i = x.2 b := (nI_eq (by omega) (by omega)).mp q
        refine et_iload_n (i := 3) d_M_joinClasses_67 rfl rfl ?_
        refine et_goto (tgt := 78) d_M_joinClasses_68 (by decide) ?_
        exact fin _ (by show _ = nI (if x.2 i = x.2 b then x.2 a else x.2 i); rw [if_pos q2])
  refine et_aload_n (i := 0) d_M_joinClasses_0 rfl rfl ?_
  refine et_getf (ci := 7) 17 d_M_joinClasses_1 h64 rfl in_M (by decide) fl_M_35 rfl ?_
  refine et_iload_n (i := 1) d_M_joinClasses_4 rfl rfl ?_
  refine et_ialn d_M_joinClasses_5 h72 (by omega) (by first | decide | omega) ?_
  rw [hname a ha]
  refine et_istore_n (i := 3) (lv' := [_, _, _, _, _, _]) d_M_joinClasses_6 rfl (by decide) rfl rfl ?_
  refine et_aload_n (i := 0) d_M_joinClasses_7 rfl rfl ?_
  refine et_getf (ci := 7) 17 d_M_joinClasses_8 h64 rfl in_M (by decide) fl_M_35 rfl ?_
  refine et_iload_n (i := 2) d_M_joinClasses_11 rfl rfl ?_
  refine et_ialn d_M_joinClasses_12 h72 (by omega) (by first | decide | omega) ?_
  rw [hname b hb]
  refine et_istore (lv' := [_, _, _, _, _, _]) d_M_joinClasses_13 (by decide) rfl rfl ?_
  refine et_aload_n (i := 0) d_M_joinClasses_15 rfl rfl ?_
  refine et_aload_n (i := 0) d_M_joinClasses_16 rfl rfl ?_
  refine et_getf (ci := 7) 19 d_M_joinClasses_17 h64 rfl in_M (by decide) fl_M_139 rfl ?_
  have fin : ∀ bb : Bool, (u || decide (x.2 a ≠ x.2 b)) = bb → et_M sc Y_M_joinClasses d 0 0 (fun r h' n' => r = .inl none ∧ n' = n ∧ (∀ k, k ≠ 64 → k ≠ 72 → h' k = h k) ∧ h' 64 = et_Mo th le a_ wr en al se ru (nI (gN x.1)) (nI (gC x.1)) (bI (u || decide (x.2 a ≠ x.2 b))) rs dc ds ∧ et_mg (gJoin x a b) h') 34 [some (.ref 64), some (.int (nI a)), some (.int (nI b)), some (.int (nI (x.2 a))), some (.int (nI (x.2 b))), none] [.int (bI bb), .ref 64] h n 0 0 := by
    intro bb hbb
    cases bb with
    | true =>
      refine et_putf (ci := 7) 19 d_M_joinClasses_34 h64 rfl in_M ty_M nm_M (by decide) fl_M_139 rfl rfl (fun _ => rfl) (fun _ => rfl) (Nat.le_of_ble_eq_true rfl) (fs' := [_, _, _, _, _, _, _, _, _, _, _, _, _, _, _, _, _, _, _, _, _, _, _, _, _, _, _, _, _, _, _, _, _]) rfl ?_
      refine et_iconst (v := 0) d_M_joinClasses_37 (by decide) ?_
      refine et_istore (lv' := [_, _, _, _, _, _]) d_M_joinClasses_38 (by decide) rfl rfl ?_
      exact loop (gC x.1) 0 b72 _ (by omega) (by rw [hbb]; rfl) ((va_ne (by decide)).trans h72) (fun k e1 e2 => va_ne e1) (fun c hc => by rw [if_neg (Nat.not_lt_zero _)]; exact hname c hc)
    | false =>
      refine et_putf (ci := 7) 19 d_M_joinClasses_34 h64 rfl in_M ty_M nm_M (by decide) fl_M_139 rfl rfl (fun _ => rfl) (fun _ => rfl) (Nat.le_of_ble_eq_true rfl) (fs' := [_, _, _, _, _, _, _, _, _, _, _, _, _, _, _, _, _, _, _, _, _, _, _, _, _, _, _, _, _, _, _, _, _]) rfl ?_
      refine et_iconst (v := 0) d_M_joinClasses_37 (by decide) ?_
      refine et_istore (lv' := [_, _, _, _, _, _]) d_M_joinClasses_38 (by decide) rfl rfl ?_
      exact loop (gC x.1) 0 b72 _ (by omega) (by rw [hbb]; rfl) ((va_ne (by decide)).trans h72) (fun k e1 e2 => va_ne e1) (fun c hc => by rw [if_neg (Nat.not_lt_zero _)]; exact hname c hc)
  cases u with
  | true =>
    refine et_if_ne (tgt := 29) d_M_joinClasses_20 (by decide) (fun _ => ?_) (fun q => absurd q (by decide))
    refine et_iconst (v := 1) d_M_joinClasses_29 (by decide) ?_
    refine et_goto (tgt := 34) d_M_joinClasses_30 (by decide) ?_
    exact fin true rfl
  | false =>
    refine et_if_ne (tgt := 29) d_M_joinClasses_20 (by decide) (fun q => absurd rfl q) (fun _ => ?_)
    refine et_iload_n (i := 3) d_M_joinClasses_23 rfl rfl ?_
    refine et_iload d_M_joinClasses_24 rfl ?_
    refine et_icmp_eq (tgt := 33) d_M_joinClasses_26 (by decide) (fun q => ?_) (fun q => ?_)
    · have q2 : x.2 a = x.2 b := (nI_eq (by omega) (by omega)).mp q
      refine et_iconst (v := 0) d_M_joinClasses_33 (by decide) ?_
      exact fin false (by rw [decide_eq_false (fun z => z q2)]; rfl)
    · have q2 : x.2 a ≠ x.2 b := fun z => q (by rw [z])
      refine et_iconst (v := 1) d_M_joinClasses_29 (by decide) ?_
      refine et_goto (tgt := 34) d_M_joinClasses_30 (by decide) ?_
      exact fin true (by rw [decide_eq_true q2]; rfl)
set_option maxHeartbeats 4000000 in
set_option maxRecDepth 100000 in
theorem c_M_labelOf {sc : et_X} {h : Nat → et_MC} {d n : Nat} {th le a_ wr en al se ru nd cs un rs : Int32} {dc ds : Int64} {b72 : Nat → Int32} {q : Nat → Nat} {C : Nat} (l : Nat) (hC : C ≤ 104) (hl : l ≤ C) (h64 : h 64 = et_Mo th le a_ wr en al se ru nd cs un rs dc ds) (h72 : h 72 = .inl (0, 104, .inl b72)) (hq : ∀ c, c < C → b72 c = nI (q c)) : et_Cn sc Y_M_labelOf d [.ref 64, .int (eI l)] h n 0 0 (fun r h' n' => r = .inl (some (.int (eI (up q l)))) ∧ n' = n ∧ h' = h) := by
  refine et_Cn.of 0 rfl rfl (by decide) mV_M_labelOf.1 ?_
  cases l with
  | zero =>
    rw [eI_0]
    refine et_iload_n (i := 1) d_M_labelOf_0 rfl rfl ?_
    refine et_if_ge (tgt := 8) d_M_labelOf_1 (by decide) (fun q => absurd q (by decide)) (fun _ => ?_)
    refine et_iconst (v := (-1)) d_M_labelOf_4 (by decide) ?_
    refine et_goto (tgt := 14) d_M_labelOf_5 (by decide) ?_
    exact et_iret d_M_labelOf_14 rfl (Nat.le_of_ble_eq_true rfl) (Nat.le_of_ble_eq_true rfl) ⟨by show _ = Sum.inl (some (Value.int (eI 0))); rw [eI_0], rfl, rfl⟩
  | succ k =>
    rw [eI_s]
    refine et_iload_n (i := 1) d_M_labelOf_0 rfl rfl ?_
    refine et_if_ge (tgt := 8) d_M_labelOf_1 (by decide) (fun _ => ?_) (fun q => absurd (nI_pos' (by omega)) q)
    refine et_aload_n (i := 0) d_M_labelOf_8 rfl rfl ?_
    refine et_getf (ci := 7) 17 d_M_labelOf_9 h64 rfl in_M (by decide) fl_M_35 rfl ?_
    refine et_iload_n (i := 1) d_M_labelOf_12 rfl rfl ?_
    refine et_ialn d_M_labelOf_13 h72 (by omega) (by first | decide | omega) ?_
    rw [hq k (by omega)]
    exact et_iret d_M_labelOf_14 rfl (Nat.le_of_ble_eq_true rfl) (Nat.le_of_ble_eq_true rfl) ⟨by show _ = Sum.inl (some (Value.int (eI (q k + 1)))); rw [eI_s], rfl, rfl⟩
/-- node j is gone -/
def rmI (j n : Nat) : Nat := if n < j then n else n + 1
def gRem (x : gx) (j : Nat) : gx := ((fun n => gS x.1 (rmI j n), fun n => gL x.1 (rmI j n), fun n => gR x.1 (rmI j n), fun n => gH x.1 (rmI j n), gN x.1 - 1, gC x.1), x.2)
set_option maxHeartbeats 4000000 in
set_option maxRecDepth 100000 in
theorem c_M_removeNode {sc : et_X} {h : Nat → et_MC} {d n : Nat} {th le a_ wr en al se ru un rs : Int32} {dc ds : Int64} {x : gx} (j : Nat) (hN : gN x.1 ≤ 104) (hj : j < gN x.1) (h64 : h 64 = et_Mo th le a_ wr en al se ru (nI (gN x.1)) (nI (gC x.1)) un rs dc ds) (hg : et_mg x h) : et_Cn sc Y_M_removeNode d [.ref 64, .int (nI j)] h n 0 0 (fun r h' n' => r = .inl none ∧ n' = n ∧ (∀ k, (k < 64 ∨ (64 < k ∧ k < 68) ∨ 71 < k) → h' k = h k) ∧ h' 64 = et_Mo th le a_ wr en al se ru (nI (gN x.1 - 1)) (nI (gC x.1)) un rs dc ds ∧ et_mg (gRem x j) h') := by
  refine et_Cn.of 1 rfl rfl (by decide) mV_M_removeNode.1 ?_
  obtain ⟨b68, b69, b70, b71, b72, h68, h69, h70, h71, h72, hnode, hname⟩ := id hg
  have loop : ∀ (t i : Nat) (g68 g69 g70 g71 : Nat → Int32) (hh : Nat → et_MC), i + t = gN x.1 - 1 → j ≤ i → hh 64 = et_Mo th le a_ wr en al se ru (nI (gN x.1 - 1)) (nI (gC x.1)) un rs dc ds → hh 68 = .inl (0, 104, .inl g68) → hh 69 = .inl (0, 104, .inl g69) → hh 70 = .inl (0, 104, .inl g70) → hh 71 = .inl (0, 104, .inl g71) → (∀ k, (k < 64 ∨ (64 < k ∧ k < 68) ∨ 71 < k) → hh k = h k) → (∀ q, q < gN x.1 → g68 q = gS x.1 (if q < i then rmI j q else q) ∧ g69 q = eI (gL x.1 (if q < i then rmI j q else q)) ∧ g70 q = eI (gR x.1 (if q < i then rmI j q else q)) ∧ g71 q = nI (gH x.1 (if q < i then rmI j q else q))) → et_M sc Y_M_removeNode d 0 0 (fun r h' n' => r = .inl none ∧ n' = n ∧ (∀ k, (k < 64 ∨ (64 < k ∧ k < 68) ∨ 71 < k) → h' k = h k) ∧ h' 64 = et_Mo th le a_ wr en al se ru (nI (gN x.1 - 1)) (nI (gC x.1)) un rs dc ds ∧ et_mg (gRem x j) h') 12 [some (.ref 64), some (.int (nI j)), some (.int (nI i))] [] hh n 0 0 := by
    intro t
    induction t with
    | zero =>
      intro i g68 g69 g70 g71 hh hi hji k64 k68 k69 k70 k71 fr hl
      obtain rfl : i = gN x.1 - 1 := by omega
      refine et_iload_n (i := 2) d_M_removeNode_12 rfl rfl ?_
      refine et_aload_n (i := 0) d_M_removeNode_13 rfl rfl ?_
      refine et_getf (ci := 7) 11 d_M_removeNode_14 k64 rfl in_M (by decide) fl_M_119 rfl ?_
      refine et_icmp_ge (tgt := 82) d_M_removeNode_17 (by decide) (fun _ => ?_) (fun q => absurd (nI_le (Nat.le_refl _) (by omega)) q)
      refine et_vret d_M_removeNode_82 rfl (Nat.le_refl _) (Nat.le_refl _) ⟨rfl, rfl, fr, k64, g68, g69, g70, g71, b72, k68, k69, k70, k71, (fr 72 (by omega)).trans h72, fun q hq => ?_, hname⟩
      have hq : q < gN x.1 - 1 := hq
      have := hl q (by omega)
      rw [if_pos hq] at this
      exact this
    | succ t ih =>
      intro i g68 g69 g70 g71 hh hi hji k64 k68 k69 k70 k71 fr hl
      obtain ⟨e1, e2, e3, e4⟩ := hl (i + 1) (by omega)
      rw [if_neg (by omega)] at e1 e2 e3 e4
      refine et_iload_n (i := 2) d_M_removeNode_12 rfl rfl ?_
      refine et_aload_n (i := 0) d_M_removeNode_13 rfl rfl ?_
      refine et_getf (ci := 7) 11 d_M_removeNode_14 k64 rfl in_M (by decide) fl_M_119 rfl ?_
      refine et_icmp_ge (tgt := 82) d_M_removeNode_17 (by decide) (fun q => absurd q (nI_ge (by omega) (by omega))) (fun _ => ?_)
      refine et_aload_n (i := 0) d_M_removeNode_20 rfl rfl ?_
      refine et_getf (ci := 7) 13 d_M_removeNode_21 k64 rfl in_M (by decide) fl_M_23 rfl ?_
      refine et_iload_n (i := 2) d_M_removeNode_24 rfl rfl ?_
      refine et_aload_n (i := 0) d_M_removeNode_25 rfl rfl ?_
      refine et_getf (ci := 7) 13 d_M_removeNode_26 k64 rfl in_M (by decide) fl_M_23 rfl ?_
      refine et_iload_n (i := 2) d_M_removeNode_29 rfl rfl ?_
      refine et_iconst (v := 1) d_M_removeNode_30 (by decide) ?_
      refine et_iadd d_M_removeNode_31 ?_
      rw [nI_1]
      refine et_ialn d_M_removeNode_32 k68 (by omega) (by first | decide | omega) ?_
      refine et_iasn d_M_removeNode_33 k68 (by omega) (by first | decide | omega) ?_
      refine et_aload_n (i := 0) d_M_removeNode_34 rfl rfl ?_
      refine et_getf (ci := 7) 14 d_M_removeNode_35 k64 rfl in_M (by decide) fl_M_26 rfl ?_
      refine et_iload_n (i := 2) d_M_removeNode_38 rfl rfl ?_
      refine et_aload_n (i := 0) d_M_removeNode_39 rfl rfl ?_
      refine et_getf (ci := 7) 14 d_M_removeNode_40 k64 rfl in_M (by decide) fl_M_26 rfl ?_
      refine et_iload_n (i := 2) d_M_removeNode_43 rfl rfl ?_
      refine et_iconst (v := 1) d_M_removeNode_44 (by decide) ?_
      refine et_iadd d_M_removeNode_45 ?_
      rw [nI_1]
      refine et_ialn d_M_removeNode_46 k69 (by omega) (by first | decide | omega) ?_
      refine et_iasn d_M_removeNode_47 k69 (by omega) (by first | decide | omega) ?_
      refine et_aload_n (i := 0) d_M_removeNode_48 rfl rfl ?_
      refine et_getf (ci := 7) 15 d_M_removeNode_49 k64 rfl in_M (by decide) fl_M_29 rfl ?_
      refine et_iload_n (i := 2) d_M_removeNode_52 rfl rfl ?_
      refine et_aload_n (i := 0) d_M_removeNode_53 rfl rfl ?_
      refine et_getf (ci := 7) 15 d_M_removeNode_54 k64 rfl in_M (by decide) fl_M_29 rfl ?_
      refine et_iload_n (i := 2) d_M_removeNode_57 rfl rfl ?_
      refine et_iconst (v := 1) d_M_removeNode_58 (by decide) ?_
      refine et_iadd d_M_removeNode_59 ?_
      rw [nI_1]
      refine et_ialn d_M_removeNode_60 k70 (by omega) (by first | decide | omega) ?_
      refine et_iasn d_M_removeNode_61 k70 (by omega) (by first | decide | omega) ?_
      refine et_aload_n (i := 0) d_M_removeNode_62 rfl rfl ?_
      refine et_getf (ci := 7) 16 d_M_removeNode_63 k64 rfl in_M (by decide) fl_M_32 rfl ?_
      refine et_iload_n (i := 2) d_M_removeNode_66 rfl rfl ?_
      refine et_aload_n (i := 0) d_M_removeNode_67 rfl rfl ?_
      refine et_getf (ci := 7) 16 d_M_removeNode_68 k64 rfl in_M (by decide) fl_M_32 rfl ?_
      refine et_iload_n (i := 2) d_M_removeNode_71 rfl rfl ?_
      refine et_iconst (v := 1) d_M_removeNode_72 (by decide) ?_
      refine et_iadd d_M_removeNode_73 ?_
      rw [nI_1]
      refine et_ialn d_M_removeNode_74 k71 (by omega) (by first | decide | omega) ?_
      refine et_iasn d_M_removeNode_75 k71 (by omega) (by first | decide | omega) ?_
      refine et_iinc (lv' := [_, _, _]) d_M_removeNode_76 rfl (v := nI (i + 1)) (nI_1 i) (by decide) rfl rfl ?_
      refine et_goto (tgt := 12) d_M_removeNode_79 (by decide) ?_
      refine ih (i + 1) (upd g68 i (g68 (i + 1))) (upd g69 i (g69 (i + 1))) (upd g70 i (g70 (i + 1))) (upd g71 i (g71 (i + 1))) _ (by omega) (by omega) k64 rfl rfl rfl rfl (fun k hk => by simp [va_up, show k ≠ 68 by omega, show k ≠ 69 by omega, show k ≠ 70 by omega, show k ≠ 71 by omega, fr k hk]) (fun q hq => ?_)
      by_cases e : q = i
      · subst e
        have er : rmI j q = q + 1 := by rw [rmI, if_neg (by omega)]
        rw [pk_us, pk_us, pk_us, pk_us, if_pos (Nat.lt_succ_self _), er]
        exact ⟨e1, e2, e3, e4⟩
      · rw [pk_un e, pk_un e, pk_un e, pk_un e]
        have := hl q hq
        by_cases e2 : q < i
        · rw [if_pos (by omega)]; rw [if_pos e2] at this; exact this
        · rw [if_neg (by omega)]; rw [if_neg e2] at this; exact this
  refine et_aload_n (i := 0) d_M_removeNode_0 rfl rfl ?_
  refine et_dup d_M_removeNode_1 rfl ?_
  refine et_getf (ci := 7) 11 d_M_removeNode_2 h64 rfl in_M (by decide) fl_M_119 rfl ?_
  refine et_iconst (v := 1) d_M_removeNode_5 (by decide) ?_
  refine et_isub d_M_removeNode_6 ?_
  rw [show (1 : Int32) = nI 1 from rfl, nI_sub (show 1 ≤ gN x.1 by omega)]
  refine et_putf (ci := 7) 11 d_M_removeNode_7 h64 rfl in_M ty_M nm_M (by decide) fl_M_119 rfl rfl (fun _ => rfl) (fun _ => rfl) (Nat.le_of_ble_eq_true rfl) (fs' := [_, _, _, _, _, _, _, _, _, _, _, _, _, _, _, _, _, _, _, _, _, _, _, _, _, _, _, _, _, _, _, _, _]) rfl ?_
  refine et_iload_n (i := 1) d_M_removeNode_10 rfl rfl ?_
  refine et_istore_n (i := 2) (lv' := [_, _, _]) d_M_removeNode_11 rfl (by decide) rfl rfl ?_
  refine loop (gN x.1 - 1 - j) j b68 b69 b70 b71 _ (by omega) (Nat.le_refl _) rfl ((va_ne (by decide)).trans h68) ((va_ne (by decide)).trans h69) ((va_ne (by decide)).trans h70) ((va_ne (by decide)).trans h71) (fun k hk => va_ne (by omega)) (fun q hq => ?_)
  have e : (if q < j then rmI j q else q) = q := by
    by_cases z : q < j
    · rw [if_pos z, rmI, if_pos z]
    · rw [if_neg z]
  rw [e]
  exact hnode q hq
set_option maxHeartbeats 4000000 in
set_option maxRecDepth 100000 in
theorem c_M_cut {sc : et_X} {h : Nat → et_MC} {d n : Nat} {th le a_ wr en al se ru un rs : Int32} {dc ds : Int64} {x : gx} (g0 : gr) (hC : gC g0 ≤ 104) (le0 : gLe g0 x.1) (h64 : h 64 = et_Mo th le a_ wr en al se ru (nI (gN x.1)) (nI (gC x.1)) un rs dc ds) (hg : et_mg x h) : et_Cn sc Y_M_cut d [.ref 64, .int (nI (gN g0)), .int (nI (gC g0))] h n 0 0 (fun r h' n' => r = .inl none ∧ n' = n ∧ (∀ k, k ≠ 64 → k ≠ 72 → h' k = h k) ∧ h' 64 = et_Mo th le a_ wr en al se ru (nI (gN g0)) (nI (gC g0)) un rs dc ds ∧ et_mg (gI g0) h') := by
  refine et_Cn.of 1 rfl rfl (by decide) mV_M_cut.1 ?_
  obtain ⟨b68, b69, b70, b71, b72, h68, h69, h70, h71, h72, hnode, hname⟩ := id hg
  have loop : ∀ (t i : Nat) (g72 : Nat → Int32) (hh : Nat → et_MC), i + t = gC g0 → hh 64 = et_Mo th le a_ wr en al se ru (nI (gN g0)) (nI (gC g0)) un rs dc ds → hh 72 = .inl (0, 104, .inl g72) → (∀ k, k ≠ 64 → k ≠ 72 → hh k = h k) → (∀ c, c < i → g72 c = nI c) → et_M sc Y_M_cut d 0 0 (fun r h' n' => r = .inl none ∧ n' = n ∧ (∀ k, k ≠ 64 → k ≠ 72 → h' k = h k) ∧ h' 64 = et_Mo th le a_ wr en al se ru (nI (gN g0)) (nI (gC g0)) un rs dc ds ∧ et_mg (gI g0) h') 12 [some (.ref 64), some (.int (nI (gN g0))), some (.int (nI (gC g0))), some (.int (nI i))] [] hh n 0 0 := by
    intro t
    induction t with
    | zero =>
      intro i g72 hh hi k64 k72 fr hl
      obtain rfl : i = gC g0 := by omega
      refine et_iload_n (i := 3) d_M_cut_12 rfl rfl ?_
      refine et_iload_n (i := 2) d_M_cut_13 rfl rfl ?_
      refine et_icmp_ge (tgt := 30) d_M_cut_14 (by decide) (fun _ => ?_) (fun q => absurd (nI_le (Nat.le_refl _) (by omega)) q)
      refine et_vret d_M_cut_30 rfl (Nat.le_refl _) (Nat.le_refl _) ⟨rfl, rfl, fr, k64, b68, b69, b70, b71, g72, (fr 68 (by decide) (by decide)).trans h68, (fr 69 (by decide) (by decide)).trans h69, (fr 70 (by decide) (by decide)).trans h70, (fr 71 (by decide) (by decide)).trans h71, k72, fun q hq => ?_, hl⟩
      obtain ⟨f1, f2, f3, f4⟩ := le0.2.2 q hq
      obtain ⟨e1, e2, e3, e4⟩ := hnode q (Nat.lt_of_lt_of_le hq le0.1)
      exact ⟨e1.trans f1, by rw [e2, f2], by rw [e3, f3], by rw [e4, f4]⟩
    | succ t ih =>
      intro i g72 hh hi k64 k72 fr hl
      refine et_iload_n (i := 3) d_M_cut_12 rfl rfl ?_
      refine et_iload_n (i := 2) d_M_cut_13 rfl rfl ?_
      refine et_icmp_ge (tgt := 30) d_M_cut_14 (by decide) (fun q => absurd q (nI_ge (by omega) (by omega))) (fun _ => ?_)
      refine et_aload_n (i := 0) d_M_cut_17 rfl rfl ?_
      refine et_getf (ci := 7) 17 d_M_cut_18 k64 rfl in_M (by decide) fl_M_35 rfl ?_
      refine et_iload_n (i := 3) d_M_cut_21 rfl rfl ?_
      refine et_iload_n (i := 3) d_M_cut_22 rfl rfl ?_
      refine et_iasn d_M_cut_23 k72 (by omega) (by first | decide | omega) ?_
      refine et_iinc (lv' := [_, _, _, _]) d_M_cut_24 rfl (v := nI (i + 1)) (nI_1 i) (by decide) rfl rfl ?_
      refine et_goto (tgt := 12) d_M_cut_27 (by decide) ?_
      refine ih (i + 1) (upd g72 i (nI i)) _ (by omega) ((va_ne (by decide)).trans k64) va_eq (fun k e1 e2 => (va_ne e2).trans (fr k e1 e2)) (fun c hc => ?_)
      by_cases e : c = i
      · rw [e, pk_us]
      · rw [pk_un e]; exact hl c (by omega)
  refine et_aload_n (i := 0) d_M_cut_0 rfl rfl ?_
  refine et_iload_n (i := 1) d_M_cut_1 rfl rfl ?_
  refine et_putf (ci := 7) 11 d_M_cut_2 h64 rfl in_M ty_M nm_M (by decide) fl_M_119 rfl rfl (fun _ => rfl) (fun _ => rfl) (Nat.le_of_ble_eq_true rfl) (fs' := [_, _, _, _, _, _, _, _, _, _, _, _, _, _, _, _, _, _, _, _, _, _, _, _, _, _, _, _, _, _, _, _, _]) rfl ?_
  refine et_aload_n (i := 0) d_M_cut_5 rfl rfl ?_
  refine et_iload_n (i := 2) d_M_cut_6 rfl rfl ?_
  refine et_putf (ci := 7) 12 d_M_cut_7 rfl rfl in_M ty_M nm_M (by decide) fl_M_126 rfl rfl (fun _ => rfl) (fun _ => rfl) (Nat.le_of_ble_eq_true rfl) (fs' := [_, _, _, _, _, _, _, _, _, _, _, _, _, _, _, _, _, _, _, _, _, _, _, _, _, _, _, _, _, _, _, _, _]) rfl ?_
  refine et_iconst (v := 0) d_M_cut_10 (by decide) ?_
  refine et_istore_n (i := 3) (lv' := [_, _, _, _]) d_M_cut_11 rfl (by decide) rfl rfl ?_
  exact loop (gC g0) 0 b72 _ (by omega) rfl h72 (fun k e1 e2 => by simp [va_up, e1]) (fun c hc => absurd hc (Nat.not_lt_zero _))
