/-- bounds of a graph between two settled states -/
def gBd (B : Nat) (g : gr) : Prop := gN g ≤ B ∧ gC g ≤ B ∧ ∀ n, n < gN g → gH g n < gC g ∧ gL g n ≤ gC g ∧ gR g n ≤ gC g
theorem gOk.bd {B : Nat} {g : gr} (h : gOk B g) : gBd B g := ⟨h.1, Nat.le_trans h.2.1 h.1, h.2.2⟩
theorem et_up5 {α : Type} (h : Nat → α) (A B C A' B' C' : α) : va_up (va_up (va_up (va_up (va_up (va_up h 7 A) 5 B) 6 C) 7 A') 5 B') 6 C' = va_up (va_up (va_up h 7 A') 5 B') 6 C' := by
  funext k
  by_cases e1 : k = 6
  · simp [va_up, e1]
  · by_cases e2 : k = 5
    · simp [va_up, e2]
    · by_cases e3 : k = 7 <;> simp [va_up, e1, e2, e3]
/-! ===== the graph: counting, names, going back ===== -/
def gCntN (g : gr) (c : Nat) : Nat → Nat
  | 0 => 0
  | k + 1 => gCntN g c k + (if gH g k = c then 1 else 0)
def gCnt (g : gr) (c : Nat) : Nat := gCntN g c (gN g)
theorem gCntN_le (g : gr) (c : Nat) : ∀ k, gCntN g c k ≤ k
  | 0 => Nat.le_refl _
  | k + 1 => by
    have := gCntN_le g c k
    unfold gCntN
    split <;> omega
/-- names are below the number of classes -/
def nOk (x : gx) : Prop := ∀ c, c < gC x.1 → x.2 c < gC x.1
def gJoin (x : gx) (a b : Nat) : gx := (x.1, fun c => if x.2 c = x.2 b then x.2 a else x.2 c)
/-- the class, or none, under a map of classes -/
def up (q : Nat → Nat) (l : Nat) : Nat := match l with
  | 0 => 0
  | k + 1 => q k + 1
def gRen (x : gx) : gx := ((gS x.1, fun n => up x.2 (gL x.1 n), fun n => up x.2 (gR x.1 n), fun n => x.2 (gH x.1 n), gN x.1, gC x.1), x.2)
set_option maxHeartbeats 4000000 in
set_option maxRecDepth 100000 in
theorem c_G_sizeOf {sc : et_X} {h : Nat → et_MC} {d n : Nat} {x : gx} (c : Nat) (hc : c < 2 ^ 31) (ok : gOk 40 x.1) (hg : et_gh x h) : et_Cn sc Y_G_sizeOf d [.ref 3, .int (nI c)] h n 0 0 (fun r h' n' => r = .inl (some (.int (nI (gCnt x.1 c)))) ∧ n' = n ∧ h' = h) := by
  refine et_Cn.of 2 rfl rfl (by decide) mV_G_sizeOf.1 ?_
  obtain ⟨a4, a5, a6, a7, a8, a9, h3, h4, h5, h6, h7, h8, h9, hA, hN⟩ := hg
  obtain ⟨o1, o2, o3⟩ := ok
  have loop : ∀ (t i : Nat), i + t = gN x.1 → et_M sc Y_G_sizeOf d 0 0 (fun r h' n' => r = .inl (some (.int (nI (gCnt x.1 c)))) ∧ n' = n ∧ h' = h) 4 [some (.ref 3), some (.int (nI c)), some (.int (nI (gCntN x.1 c i))), some (.int (nI i))] [] h n 0 0 := by
    intro t
    induction t with
    | zero =>
      intro i hi
      obtain rfl : i = gN x.1 := by omega
      refine et_iload_n (i := 3) d_G_sizeOf_4 rfl rfl ?_
      refine et_aload_n (i := 0) d_G_sizeOf_5 rfl rfl ?_
      refine et_getf (ci := 1) 4 d_G_sizeOf_6 h3 rfl in_G (by decide) fl_G_24 rfl ?_
      refine et_icmp_ge (tgt := 31) d_G_sizeOf_9 (by decide) (fun _ => ?_) (fun q => absurd (nI_le (Nat.le_refl _) (by omega)) q)
      refine et_iload_n (i := 2) d_G_sizeOf_31 rfl rfl ?_
      exact et_iret d_G_sizeOf_32 rfl (Nat.le_of_ble_eq_true rfl) (Nat.le_of_ble_eq_true rfl) ⟨rfl, rfl, rfl⟩
    | succ t ih =>
      intro i hi
      refine et_iload_n (i := 3) d_G_sizeOf_4 rfl rfl ?_
      refine et_aload_n (i := 0) d_G_sizeOf_5 rfl rfl ?_
      refine et_getf (ci := 1) 4 d_G_sizeOf_6 h3 rfl in_G (by decide) fl_G_24 rfl ?_
      refine et_icmp_ge (tgt := 31) d_G_sizeOf_9 (by decide) (fun q => absurd q (nI_ge (by omega) (by omega))) (fun _ => ?_)
      refine et_aload_n (i := 0) d_G_sizeOf_12 rfl rfl ?_
      refine et_getf (ci := 1) 3 d_G_sizeOf_13 h3 rfl in_G (by decide) fl_G_21 rfl ?_
      refine et_iload_n (i := 3) d_G_sizeOf_16 rfl rfl ?_
      refine et_ialn d_G_sizeOf_17 h7 (by omega) (by first | decide | omega) ?_
      refine et_iload_n (i := 1) d_G_sizeOf_18 rfl rfl ?_
      obtain ⟨-, -, -, e4⟩ := hA i (by omega)
      have b4 := (o3 i (by omega)).1
      rw [e4]
      have nx := ih (i + 1) (by omega)
      refine et_icmp_ne (tgt := 25) d_G_sizeOf_19 (by decide) (fun q => ?_) (fun q => ?_)
      · have e5 : gCntN x.1 c (i + 1) = gCntN x.1 c i := by
          rw [gCntN, if_neg (fun z => q (by rw [z])), Nat.add_zero]
        rw [e5] at nx
        refine et_iinc (lv' := [_, _, _, _]) d_G_sizeOf_25 rfl (v := nI (i + 1)) (nI_1 i) (by decide) rfl rfl ?_
        exact et_goto (tgt := 4) d_G_sizeOf_28 (by decide) nx
      · have e5 : gCntN x.1 c (i + 1) = gCntN x.1 c i + 1 := by
          rw [gCntN, if_pos ((nI_eq (by omega) hc).mp q)]
        rw [e5] at nx
        refine et_iinc (lv' := [_, _, _, _]) d_G_sizeOf_22 rfl (v := nI (gCntN x.1 c i + 1)) (nI_1 _) (by decide) rfl rfl ?_
        refine et_iinc (lv' := [_, _, _, _]) d_G_sizeOf_25 rfl (v := nI (i + 1)) (nI_1 i) (by decide) rfl rfl ?_
        exact et_goto (tgt := 4) d_G_sizeOf_28 (by decide) nx
  refine et_iconst (v := 0) d_G_sizeOf_0 (by decide) ?_
  refine et_istore_n (i := 2) (lv' := [_, _, _, _]) d_G_sizeOf_1 rfl (by decide) rfl rfl ?_
  refine et_iconst (v := 0) d_G_sizeOf_2 (by decide) ?_
  refine et_istore_n (i := 3) (lv' := [_, _, _, _]) d_G_sizeOf_3 rfl (by decide) rfl rfl ?_
  exact loop (gN x.1) 0 (by omega)
set_option maxHeartbeats 4000000 in
set_option maxRecDepth 100000 in
theorem c_G_nameAllByNumber {sc : et_X} {h : Nat → et_MC} {d n : Nat} {x : gx} (ok : gC x.1 ≤ 40) (hg : et_gh x h) : et_Cn sc Y_G_nameAllByNumber d [.ref 3] h n 0 0 (fun r h' n' => r = .inl none ∧ n' = n ∧ et_g9 h h' ∧ et_gh (x.1, fun c => c) h') := by
  refine et_Cn.of 1 rfl rfl (by decide) mV_G_nameAllByNumber.1 ?_
  obtain ⟨a4, a5, a6, a7, a8, a9, h3, h4, h5, h6, h7, h8, h9, hA, hN⟩ := hg
  have loop : ∀ (t i : Nat) (b8 : Nat → Int32), i + t = gC x.1 → (∀ c, c < i → b8 c = nI c) → et_M sc Y_G_nameAllByNumber d 0 0 (fun r h' n' => r = .inl none ∧ n' = n ∧ et_g9 h h' ∧ et_gh (x.1, fun c => c) h') 2 [some (.ref 3), some (.int (nI i))] [] (va_up h 8 (.inl (0, 40, .inl b8))) n 0 0 := by
    intro t
    induction t with
    | zero =>
      intro i b8 hi hb
      obtain rfl : i = gC x.1 := by omega
      refine et_iload_n (i := 1) d_G_nameAllByNumber_2 rfl rfl ?_
      refine et_aload_n (i := 0) d_G_nameAllByNumber_3 rfl rfl ?_
      refine et_getf (ci := 1) 5 d_G_nameAllByNumber_4 h3 rfl in_G (by decide) fl_G_28 rfl ?_
      refine et_icmp_ge (tgt := 23) d_G_nameAllByNumber_7 (by decide) (fun _ => ?_) (fun q => absurd (nI_le (Nat.le_refl _) (by omega)) q)
      exact et_vret d_G_nameAllByNumber_23 rfl (Nat.le_refl _) (Nat.le_refl _) ⟨rfl, rfl, fun k hk => by simp [va_up, show k ≠ 8 by omega], a4, a5, a6, a7, b8, a9, h3, h4, h5, h6, h7, rfl, h9, hA, hb⟩
    | succ t ih =>
      intro i b8 hi hb
      refine et_iload_n (i := 1) d_G_nameAllByNumber_2 rfl rfl ?_
      refine et_aload_n (i := 0) d_G_nameAllByNumber_3 rfl rfl ?_
      refine et_getf (ci := 1) 5 d_G_nameAllByNumber_4 h3 rfl in_G (by decide) fl_G_28 rfl ?_
      refine et_icmp_ge (tgt := 23) d_G_nameAllByNumber_7 (by decide) (fun q => absurd q (nI_ge (by omega) (by omega))) (fun _ => ?_)
      refine et_aload_n (i := 0) d_G_nameAllByNumber_10 rfl rfl ?_
      refine et_getf (ci := 1) 6 d_G_nameAllByNumber_11 h3 rfl in_G (by decide) fl_G_31 rfl ?_
      refine et_iload_n (i := 1) d_G_nameAllByNumber_14 rfl rfl ?_
      refine et_iload_n (i := 1) d_G_nameAllByNumber_15 rfl rfl ?_
      refine et_iasn d_G_nameAllByNumber_16 rfl (by omega) (by first | decide | omega) ?_
      refine et_iinc (lv' := [_, _]) d_G_nameAllByNumber_17 rfl (v := nI (i + 1)) (nI_1 i) (by decide) rfl rfl ?_
      refine et_goto (tgt := 2) d_G_nameAllByNumber_20 (by decide) ?_
      rw [bx_uu]
      refine ih (i + 1) _ (by omega) (fun c hc => ?_)
      by_cases e : c = i
      · rw [e, pk_us]
      · rw [pk_un e]
        exact hb c (by omega)
  refine et_iconst (v := 0) d_G_nameAllByNumber_0 (by decide) ?_
  refine et_istore_n (i := 1) (lv' := [_, _]) d_G_nameAllByNumber_1 rfl (by decide) rfl rfl ?_
  have z := loop (gC x.1) 0 a8 (by omega) (fun c hc => absurd hc (Nat.not_lt_zero c))
  rw [et_upself h8] at z
  exact z
set_option maxHeartbeats 4000000 in
set_option maxRecDepth 100000 in
theorem c_G_goBack {sc : et_X} {h : Nat → et_MC} {d n : Nat} {x : gx} (g0 : gr) (ok : gOk 40 g0) (le : gLe g0 x.1) (hg : et_gh x h) : et_Cn sc Y_G_goBack (d + 1) [.ref 3, .int (nI (gN g0)), .int (nI (gC g0))] h n 0 0 (fun r h' n' => r = .inl none ∧ n' = n ∧ et_g9 h h' ∧ et_gh (g0, fun c => c) h') := by
  refine et_Cn.of 0 rfl rfl (by decide) mV_G_goBack.1 ?_
  obtain ⟨a4, a5, a6, a7, a8, a9, h3, h4, h5, h6, h7, h8, h9, hA, hN⟩ := hg
  refine et_aload_n (i := 0) d_G_goBack_0 rfl rfl ?_
  refine et_iload_n (i := 1) d_G_goBack_1 rfl rfl ?_
  refine et_putf (ci := 1) 4 d_G_goBack_2 h3 rfl in_G ty_G nm_G (by decide) fl_G_24 rfl rfl (fun _ => rfl) (fun _ => rfl) (Nat.le_of_ble_eq_true rfl) (fs' := [_, _, _, _, _, _, _, _]) rfl ?_
  refine et_aload_n (i := 0) d_G_goBack_5 rfl rfl ?_
  refine et_iload_n (i := 2) d_G_goBack_6 rfl rfl ?_
  refine et_putf (ci := 1) 5 d_G_goBack_7 rfl rfl in_G ty_G nm_G (by decide) fl_G_28 rfl rfl (fun _ => rfl) (fun _ => rfl) (Nat.le_of_ble_eq_true rfl) (fs' := [_, _, _, _, _, _, _, _]) rfl ?_
  refine et_aload_n (i := 0) d_G_goBack_10 rfl rfl ?_
  have hg2 : et_gh (g0, x.2) (va_up (va_up h 3 (.inr (1, [.ref 4, .ref 5, .ref 6, .ref 7, .int (nI (gN g0)), .int (nI (gC x.1)), .ref 8, .ref 9]))) 3 (.inr (1, [.ref 4, .ref 5, .ref 6, .ref 7, .int (nI (gN g0)), .int (nI (gC g0)), .ref 8, .ref 9]))) := by
    refine ⟨a4, a5, a6, a7, a8, a9, rfl, h4, h5, h6, h7, h8, h9, fun k hk => ?_, fun c hc => ?_⟩
    · obtain ⟨e1, e2, e3, e4⟩ := hA k (Nat.lt_of_lt_of_le hk le.1)
      obtain ⟨f1, f2, f3, f4⟩ := le.2.2 k hk
      exact ⟨e1.trans f1, by rw [e2, f2], by rw [e3, f3], by rw [e4, f4]⟩
    · exact hN c (Nat.lt_of_lt_of_le hc le.2.1)
  refine et_invV mV_G_nameAllByNumber (As := []) rfl d_G_goBack_11 lk_G_45 len_G_nameAllByNumber rfl rfl (Nat.le_of_ble_eq_true rfl) (c_G_nameAllByNumber (d := d) (x := (g0, x.2)) (Nat.le_trans ok.2.1 ok.1) hg2) (Nat.le_refl _) (Nat.le_of_ble_eq_true rfl) (Nat.le_of_ble_eq_true rfl) (fun v h' n' hp => ?_) (fun x h' n' hp => by cases hp.1)
  obtain ⟨hv, hn2, fr2, g2⟩ := hp
  cases hv
  exact et_vret d_G_goBack_14 rfl (Nat.le_refl _) (Nat.le_refl _) ⟨rfl, hn2, fun k hk => by rw [fr2 k hk]; simp [va_up, show k ≠ 3 by omega], g2⟩
set_option maxHeartbeats 4000000 in
set_option maxRecDepth 100000 in
theorem c_G_join {sc : et_X} {h : Nat → et_MC} {d n : Nat} {x : gx} (a b : Nat) (ok : gC x.1 ≤ 40) (nok : nOk x) (ha : a < gC x.1) (hb : b < gC x.1) (hg : et_gh x h) : et_Cn sc Y_G_join d [.ref 3, .int (nI a), .int (nI b)] h n 0 0 (fun r h' n' => n' = n ∧ et_g9 h h' ∧ et_gh (gJoin x a b) h' ∧ ((x.2 a = x.2 b ∧ r = .inl (some (.int 0))) ∨ (x.2 a ≠ x.2 b ∧ r = .inl (some (.int 1))))) := by
  refine et_Cn.of 3 rfl rfl (by decide) mV_G_join.1 ?_
  obtain ⟨a4, a5, a6, a7, a8, a9, h3, h4, h5, h6, h7, h8, h9, hA, hN⟩ := hg
  have e8a := hN a ha
  have e8b := hN b hb
  have na := nok a ha
  have nb := nok b hb
  refine et_aload_n (i := 0) d_G_join_0 rfl rfl ?_
  refine et_getf (ci := 1) 6 d_G_join_1 h3 rfl in_G (by decide) fl_G_31 rfl ?_
  refine et_iload_n (i := 1) d_G_join_4 rfl rfl ?_
  refine et_ialn d_G_join_5 h8 (by omega) (by first | decide | omega) ?_
  rw [e8a]
  refine et_istore_n (i := 3) (lv' := [_, _, _, _, _, _]) d_G_join_6 rfl (by decide) rfl rfl ?_
  refine et_aload_n (i := 0) d_G_join_7 rfl rfl ?_
  refine et_getf (ci := 1) 6 d_G_join_8 h3 rfl in_G (by decide) fl_G_31 rfl ?_
  refine et_iload_n (i := 2) d_G_join_11 rfl rfl ?_
  refine et_ialn d_G_join_12 h8 (by omega) (by first | decide | omega) ?_
  rw [e8b]
  refine et_istore (lv' := [_, _, _, _, _, _]) d_G_join_13 (by decide) rfl rfl ?_
  refine et_iload_n (i := 3) d_G_join_15 rfl rfl ?_
  refine et_iload d_G_join_16 rfl ?_
  refine et_icmp_ne (tgt := 23) d_G_join_18 (by decide) (fun q => ?_) (fun q => ?_)
  rotate_left
  · have q2 : x.2 a = x.2 b := (nI_eq (by omega) (by omega)).mp q
    refine et_iconst (v := 0) d_G_join_21 (by decide) ?_
    refine et_zret d_G_join_22 rfl rfl (Nat.le_refl _) (Nat.le_refl _) ⟨rfl, fun _ _ => rfl, ⟨a4, a5, a6, a7, a8, a9, h3, h4, h5, h6, h7, h8, h9, hA, fun c hc => ?_⟩, Or.inl ⟨q2, rfl⟩⟩
    rw [hN c hc]
    show nI (x.2 c) = nI (if x.2 c = x.2 b then x.2 a else x.2 c)
    by_cases e : x.2 c = x.2 b
    · rw [if_pos e, e, q2]
    · rw [if_neg e]
  have q2 : x.2 a ≠ x.2 b := fun z => q (by rw [z])
  have loop : ∀ (t i : Nat) (b8 : Nat → Int32), i + t = gC x.1 → (∀ c, c < i → b8 c = nI ((gJoin x a b).2 c)) → (∀ c, i ≤ c → b8 c = a8 c) → et_M sc Y_G_join d 0 0 (fun r h' n' => n' = n ∧ et_g9 h h' ∧ et_gh (gJoin x a b) h' ∧ ((x.2 a = x.2 b ∧ r = .inl (some (.int 0))) ∨ (x.2 a ≠ x.2 b ∧ r = .inl (some (.int 1))))) 26 [some (.ref 3), some (.int (nI a)), some (.int (nI b)), some (.int (nI (x.2 a))), some (.int (nI (x.2 b))), some (.int (nI i))] [] (va_up h 8 (.inl (0, 40, .inl b8))) n 0 0 := by
    intro t
    induction t with
    | zero =>
      intro i b8 hi hb1 hb2
      obtain rfl : i = gC x.1 := by omega
      refine et_iload d_G_join_26 rfl ?_
      refine et_aload_n (i := 0) d_G_join_28 rfl rfl ?_
      refine et_getf (ci := 1) 5 d_G_join_29 h3 rfl in_G (by decide) fl_G_28 rfl ?_
      refine et_icmp_ge (tgt := 61) d_G_join_32 (by decide) (fun _ => ?_) (fun q => absurd (nI_le (Nat.le_refl _) (by omega)) q)
      refine et_iconst (v := 1) d_G_join_61 (by decide) ?_
      exact et_zret d_G_join_62 rfl rfl (Nat.le_refl _) (Nat.le_refl _) ⟨rfl, fun k hk => by simp [va_up, show k ≠ 8 by omega], ⟨a4, a5, a6, a7, b8, a9, h3, h4, h5, h6, h7, rfl, h9, hA, hb1⟩, Or.inr ⟨q2, rfl⟩⟩
    | succ t ih =>
      intro i b8 hi hb1 hb2
      have hN8 : b8 i = nI (x.2 i) := (hb2 i (Nat.le_refl _)).trans (hN i (by omega))
      have ni := nok i (by omega)
      refine et_iload d_G_join_26 rfl ?_
      refine et_aload_n (i := 0) d_G_join_28 rfl rfl ?_
      refine et_getf (ci := 1) 5 d_G_join_29 h3 rfl in_G (by decide) fl_G_28 rfl ?_
      refine et_icmp_ge (tgt := 61) d_G_join_32 (by decide) (fun q => absurd q (nI_ge (by omega) (by omega))) (fun _ => ?_)
      refine et_aload_n (i := 0) d_G_join_35 rfl rfl ?_
      refine et_getf (ci := 1) 6 d_G_join_36 h3 rfl in_G (by decide) fl_G_31 rfl ?_
      refine et_iload d_G_join_39 rfl ?_
      refine et_ialn d_G_join_41 rfl (by omega) (by first | decide | omega) ?_
      refine et_iload d_G_join_42 rfl ?_
      rw [hN8]
      refine et_icmp_ne (tgt := 55) d_G_join_44 (by decide) (fun q3 => ?_) (fun q3 => ?_)
      · have q4 : ¬ x.2 i = x.2 b := fun z => q3 (by rw [z])
        refine et_iinc (lv' := [_, _, _, _, _, _]) d_G_join_55 rfl (v := nI (i + 1)) (nI_1 i) (by decide) rfl rfl ?_
        refine et_goto (tgt := 26) d_G_join_58 (by decide) ?_
        refine ih (i + 1) b8 (by omega) (fun c hc => ?_) (fun c hc => hb2 c (by omega))
        by_cases e : c = i
        · rw [e, hN8]
          show _ = nI (if x.2 i = x.2 b then x.2 a else x.2 i)
          rw [if_neg q4]
        · exact hb1 c (by omega)
      · have q4 : x.2 i = x.2 b := (nI_eq (by omega) (by omega)).mp q3
        refine et_aload_n (i := 0) d_G_join_47 rfl rfl ?_
        refine et_getf (ci := 1) 6 d_G_join_48 h3 rfl in_G (by decide) fl_G_31 rfl ?_
        refine et_iload d_G_join_51 rfl ?_
        refine et_iload_n (i := 3) d_G_join_53 rfl rfl ?_
        refine et_iasn d_G_join_54 rfl (by omega) (by first | decide | omega) ?_
        refine et_iinc (lv' := [_, _, _, _, _, _]) d_G_join_55 rfl (v := nI (i + 1)) (nI_1 i) (by decide) rfl rfl ?_
        refine et_goto (tgt := 26) d_G_join_58 (by decide) ?_
        rw [bx_uu]
        refine ih (i + 1) _ (by omega) (fun c hc => ?_) (fun c hc => ?_)
        · by_cases e : c = i
          · rw [e, pk_us]
            show _ = nI (if x.2 i = x.2 b then x.2 a else x.2 i)
            rw [if_pos q4]
          · rw [pk_un e]
            exact hb1 c (by omega)
        · rw [pk_un (by omega)]
          exact hb2 c (by omega)
  refine et_iconst (v := 0) d_G_join_23 (by decide) ?_
  refine et_istore (lv' := [_, _, _, _, _, _]) d_G_join_24 (by decide) rfl rfl ?_
  have z := loop (gC x.1) 0 a8 (by omega) (fun c hc => absurd hc (Nat.not_lt_zero c)) (fun _ _ => rfl)
  rw [et_upself h8] at z
  exact z
set_option maxHeartbeats 4000000 in
set_option maxRecDepth 100000 in
theorem c_G_rename {sc : et_X} {h : Nat → et_MC} {d n : Nat} {x : gx} (ok : gBd 40 x.1) (hg : et_gh x h) : et_Cn sc Y_G_rename d [.ref 3] h n 0 0 (fun r h' n' => r = .inl none ∧ n' = n ∧ et_g9 h h' ∧ et_gh (gRen x) h') := by
  refine et_Cn.of 1 rfl rfl (by decide) mV_G_rename.1 ?_
  obtain ⟨a4, a5, a6, a7, a8, a9, h3, h4, h5, h6, h7, h8, h9, hA, hN⟩ := hg
  obtain ⟨o1, o2, o3⟩ := ok
  have loop : ∀ (t i : Nat) (b7 b5 b6 : Nat → Int32) (hh : Nat → et_MC), i + t = gN x.1 → hh = (va_up (va_up (va_up h 7 (.inl (0, 40, .inl b7))) 5 (.inl (0, 40, .inl b5))) 6 (.inl (0, 40, .inl b6))) → (∀ k, k < i → b5 k = eI (up x.2 (gL x.1 k)) ∧ b6 k = eI (up x.2 (gR x.1 k)) ∧ b7 k = nI (x.2 (gH x.1 k))) → (∀ k, i ≤ k → b5 k = a5 k ∧ b6 k = a6 k ∧ b7 k = a7 k) → et_M sc Y_G_rename d 0 0 (fun r h' n' => r = .inl none ∧ n' = n ∧ et_g9 h h' ∧ et_gh (gRen x) h') 2 [some (.ref 3), some (.int (nI i))] [] hh n 0 0 := by
    intro t
    induction t with
    | zero =>
      intro i b7 b5 b6 hh hi he hb1 hb2
      subst he
      obtain rfl : i = gN x.1 := by omega
      refine et_iload_n (i := 1) d_G_rename_2 rfl rfl ?_
      refine et_aload_n (i := 0) d_G_rename_3 rfl rfl ?_
      refine et_getf (ci := 1) 4 d_G_rename_4 h3 rfl in_G (by decide) fl_G_24 rfl ?_
      refine et_icmp_ge (tgt := 95) d_G_rename_7 (by decide) (fun _ => ?_) (fun q => absurd (nI_le (Nat.le_refl _) (by omega)) q)
      exact et_vret d_G_rename_95 rfl (Nat.le_refl _) (Nat.le_refl _) ⟨rfl, rfl, fun k hk => by simp [va_up, show k ≠ 7 by omega, show k ≠ 5 by omega, show k ≠ 6 by omega], a4, b5, b6, b7, a8, a9, h3, h4, rfl, rfl, rfl, h8, h9, fun k hk => ⟨(hA k hk).1, (hb1 k hk).1, (hb1 k hk).2.1, (hb1 k hk).2.2⟩, hN⟩
    | succ t ih =>
      intro i b7 b5 b6 hh hi he hb1 hb2
      subst he
      obtain ⟨e1, e2, e3, e4⟩ := hA i (by omega)
      obtain ⟨u1, u2, u3⟩ := hb2 i (Nat.le_refl _)
      obtain ⟨c1, c2, c3⟩ := o3 i (by omega)
      have nxt : ∀ (b5' b6' : Nat → Int32) (hh : Nat → et_MC), hh = (va_up (va_up (va_up h 7 (.inl (0, 40, .inl (upd b7 i (nI (x.2 (gH x.1 i))))))) 5 (.inl (0, 40, .inl b5'))) 6 (.inl (0, 40, .inl b6'))) → b5' = upd b5 i (eI (up x.2 (gL x.1 i))) → b6' = upd b6 i (eI (up x.2 (gR x.1 i))) → et_M sc Y_G_rename d 0 0 (fun r h' n' => r = .inl none ∧ n' = n ∧ et_g9 h h' ∧ et_gh (gRen x) h') 89 [some (.ref 3), some (.int (nI i))] [] hh n 0 0 := by
        intro b5' b6' hh he h5' h6'
        refine et_iinc (lv' := [_, _]) d_G_rename_89 rfl (v := nI (i + 1)) (nI_1 i) (by decide) rfl rfl ?_
        refine et_goto (tgt := 2) d_G_rename_92 (by decide) ?_
        refine ih (i + 1) _ b5' b6' hh (by omega) he (fun k hk => ?_) (fun k hk => ?_)
        · rw [h5', h6']
          by_cases e : k = i
          · rw [e, pk_us, pk_us, pk_us]
            exact ⟨rfl, rfl, rfl⟩
          · rw [pk_un e, pk_un e, pk_un e]
            exact hb1 k (by omega)
        · rw [h5', h6', pk_un (by omega), pk_un (by omega), pk_un (by omega)]
          exact hb2 k (by omega)
      have right : ∀ (b5' : Nat → Int32), b5' = upd b5 i (eI (up x.2 (gL x.1 i))) → et_M sc Y_G_rename d 0 0 (fun r h' n' => r = .inl none ∧ n' = n ∧ et_g9 h h' ∧ et_gh (gRen x) h') 58 [some (.ref 3), some (.int (nI i))] [] (va_up (va_up (va_up (va_up (va_up h 7 (.inl (0, 40, .inl b7))) 5 (.inl (0, 40, .inl b5))) 6 (.inl (0, 40, .inl b6))) 7 (.inl (0, 40, .inl (upd b7 i (nI (x.2 (gH x.1 i))))))) 5 (.inl (0, 40, .inl b5'))) n 0 0 := by
        intro b5' h5'
        refine et_aload_n (i := 0) d_G_rename_58 rfl rfl ?_
        refine et_getf (ci := 1) 2 d_G_rename_59 h3 rfl in_G (by decide) fl_G_18 rfl ?_
        refine et_iload_n (i := 1) d_G_rename_62 rfl rfl ?_
        refine et_aload_n (i := 0) d_G_rename_63 rfl rfl ?_
        refine et_getf (ci := 1) 2 d_G_rename_64 h3 rfl in_G (by decide) fl_G_18 rfl ?_
        refine et_iload_n (i := 1) d_G_rename_67 rfl rfl ?_
        refine et_ialn d_G_rename_68 rfl (by omega) (by first | decide | omega) ?_
        refine et_iconst (v := (-1)) d_G_rename_69 (by decide) ?_
        rw [u2, e3]
        cases hr : gR x.1 i with
        | zero =>
          rw [eI_0]
          refine et_icmp_ne (tgt := 77) d_G_rename_70 (by decide) (fun q => absurd rfl q) (fun _ => ?_)
          refine et_iconst (v := (-1)) d_G_rename_73 (by decide) ?_
          refine et_goto (tgt := 88) d_G_rename_74 (by decide) ?_
          refine et_iasn d_G_rename_88 rfl (by omega) (by first | decide | omega) ?_
          refine nxt b5' (upd b6 i (-1)) _ ?_ h5' (by rw [hr]; show _ = upd b6 i (eI 0); rw [eI_0])
          exact et_up5 h _ _ _ _ _ _
        | succ r =>
          rw [hr] at c3
          rw [eI_s]
          refine et_icmp_ne (tgt := 77) d_G_rename_70 (by decide) (fun _ => ?_) (fun q => absurd q (eI_ns (by omega)))
          refine et_aload_n (i := 0) d_G_rename_77 rfl rfl ?_
          refine et_getf (ci := 1) 6 d_G_rename_78 h3 rfl in_G (by decide) fl_G_31 rfl ?_
          refine et_aload_n (i := 0) d_G_rename_81 rfl rfl ?_
          refine et_getf (ci := 1) 2 d_G_rename_82 h3 rfl in_G (by decide) fl_G_18 rfl ?_
          refine et_iload_n (i := 1) d_G_rename_85 rfl rfl ?_
          refine et_ialn d_G_rename_86 rfl (by omega) (by first | decide | omega) ?_
          rw [u2, e3, hr, eI_s]
          refine et_ialn d_G_rename_87 h8 (by omega) (by first | decide | omega) ?_
          rw [hN r (by omega)]
          refine et_iasn d_G_rename_88 rfl (by omega) (by first | decide | omega) ?_
          refine nxt b5' (upd b6 i (nI (x.2 r))) _ ?_ h5' (by rw [hr]; show _ = upd b6 i (eI (x.2 r + 1)); rw [eI_s])
          exact et_up5 h _ _ _ _ _ _
      refine et_iload_n (i := 1) d_G_rename_2 rfl rfl ?_
      refine et_aload_n (i := 0) d_G_rename_3 rfl rfl ?_
      refine et_getf (ci := 1) 4 d_G_rename_4 h3 rfl in_G (by decide) fl_G_24 rfl ?_
      refine et_icmp_ge (tgt := 95) d_G_rename_7 (by decide) (fun q => absurd q (nI_ge (by omega) (by omega))) (fun _ => ?_)
      refine et_aload_n (i := 0) d_G_rename_10 rfl rfl ?_
      refine et_getf (ci := 1) 3 d_G_rename_11 h3 rfl in_G (by decide) fl_G_21 rfl ?_
      refine et_iload_n (i := 1) d_G_rename_14 rfl rfl ?_
      refine et_aload_n (i := 0) d_G_rename_15 rfl rfl ?_
      refine et_getf (ci := 1) 6 d_G_rename_16 h3 rfl in_G (by decide) fl_G_31 rfl ?_
      refine et_aload_n (i := 0) d_G_rename_19 rfl rfl ?_
      refine et_getf (ci := 1) 3 d_G_rename_20 h3 rfl in_G (by decide) fl_G_21 rfl ?_
      refine et_iload_n (i := 1) d_G_rename_23 rfl rfl ?_
      refine et_ialn d_G_rename_24 rfl (by omega) (by first | decide | omega) ?_
      rw [u3, e4]
      refine et_ialn d_G_rename_25 h8 (by omega) (by first | decide | omega) ?_
      rw [hN (gH x.1 i) c1]
      refine et_iasn d_G_rename_26 rfl (by omega) (by first | decide | omega) ?_
      refine et_aload_n (i := 0) d_G_rename_27 rfl rfl ?_
      refine et_getf (ci := 1) 1 d_G_rename_28 h3 rfl in_G (by decide) fl_G_15 rfl ?_
      refine et_iload_n (i := 1) d_G_rename_31 rfl rfl ?_
      refine et_aload_n (i := 0) d_G_rename_32 rfl rfl ?_
      refine et_getf (ci := 1) 1 d_G_rename_33 h3 rfl in_G (by decide) fl_G_15 rfl ?_
      refine et_iload_n (i := 1) d_G_rename_36 rfl rfl ?_
      refine et_ialn d_G_rename_37 rfl (by omega) (by first | decide | omega) ?_
      refine et_iconst (v := (-1)) d_G_rename_38 (by decide) ?_
      rw [u1, e2]
      cases hl : gL x.1 i with
      | zero =>
        rw [eI_0]
        refine et_icmp_ne (tgt := 46) d_G_rename_39 (by decide) (fun q => absurd rfl q) (fun _ => ?_)
        refine et_iconst (v := (-1)) d_G_rename_42 (by decide) ?_
        refine et_goto (tgt := 57) d_G_rename_43 (by decide) ?_
        refine et_iasn d_G_rename_57 rfl (by omega) (by first | decide | omega) ?_
        exact right _ (by rw [hl]; show _ = upd b5 i (eI 0); rw [eI_0])
      | succ l =>
        rw [hl] at c2
        rw [eI_s]
        refine et_icmp_ne (tgt := 46) d_G_rename_39 (by decide) (fun _ => ?_) (fun q => absurd q (eI_ns (by omega)))
        refine et_aload_n (i := 0) d_G_rename_46 rfl rfl ?_
        refine et_getf (ci := 1) 6 d_G_rename_47 h3 rfl in_G (by decide) fl_G_31 rfl ?_
        refine et_aload_n (i := 0) d_G_rename_50 rfl rfl ?_
        refine et_getf (ci := 1) 1 d_G_rename_51 h3 rfl in_G (by decide) fl_G_15 rfl ?_
        refine et_iload_n (i := 1) d_G_rename_54 rfl rfl ?_
        refine et_ialn d_G_rename_55 rfl (by omega) (by first | decide | omega) ?_
        rw [u1, e2, hl, eI_s]
        refine et_ialn d_G_rename_56 h8 (by omega) (by first | decide | omega) ?_
        rw [hN l (by omega)]
        refine et_iasn d_G_rename_57 rfl (by omega) (by first | decide | omega) ?_
        exact right _ (by rw [hl]; show _ = upd b5 i (eI (x.2 l + 1)); rw [eI_s])
  refine et_iconst (v := 0) d_G_rename_0 (by decide) ?_
  refine et_istore_n (i := 1) (lv' := [_, _]) d_G_rename_1 rfl (by decide) rfl rfl ?_
  refine loop (gN x.1) 0 a7 a5 a6 h (by omega) ?_ (fun k hk => absurd hk (Nat.not_lt_zero k)) (fun _ _ => ⟨rfl, rfl, rfl⟩)
  rw [et_upself h7, et_upself h5, et_upself h6]
