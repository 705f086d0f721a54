/-! ===== the law's helpers, over any contract of the method that they call ===== -/
def et_lp (Pc : et_R → (Nat → et_MC) → Nat → Prop) : et_R → (Nat → et_MC) → Nat → Prop := fun r h' n' =>
  (∃ (w : Int32) (h0 : Nat → et_MC), Pc (.inl (some (.int w))) h0 n' ∧ r = .inl (some (.int 0)) ∧ (∀ k, k ≠ 84 → h' k = h0 k) ∧ ∃ g : Nat → Int64, h' 84 = .inl (1, 1, .inr (.inl g)) ∧ g 0 = w.toInt64) ∨
  (∃ k : Nat, Pc (.inr k) h' n' ∧ r = .inl (some (.int (nI (k + 1)))))
def et_lpL (Pc : et_R → (Nat → et_MC) → Nat → Prop) : et_R → (Nat → et_MC) → Nat → Prop := fun r h' n' =>
  (∃ (w : Int64) (h0 : Nat → et_MC), Pc (.inl (some (.long w))) h0 n' ∧ r = .inl (some (.int 0)) ∧ (∀ k, k ≠ 84 → h' k = h0 k) ∧ ∃ g : Nat → Int64, h' 84 = .inl (1, 1, .inr (.inl g)) ∧ g 0 = w) ∨
  (∃ k : Nat, Pc (.inr k) h' n' ∧ r = .inl (some (.int (nI (k + 1)))))
def et_lpV (Pc : et_R → (Nat → et_MC) → Nat → Prop) : et_R → (Nat → et_MC) → Nat → Prop := fun r h' n' =>
  (Pc (.inl none) h' n' ∧ r = .inl (some (.int 0))) ∨ (∃ k : Nat, Pc (.inr k) h' n' ∧ r = .inl (some (.int (nI (k + 1)))))
/-- what a helper asks of the method's contract: an answer, or one of the exceptions that it catches -/
def et_lok (Pc : et_R → (Nat → et_MC) → Nat → Prop) (two : Bool) : Prop := ∀ r h' n', Pc r h' n' → (∃ (w : Int32) (g : Nat → Int64), r = .inl (some (.int w)) ∧ h' 84 = .inl (1, 1, .inr (.inl g))) ∨ r = .inr 0 ∨ (two = true ∧ r = .inr 1)
def et_lokL (Pc : et_R → (Nat → et_MC) → Nat → Prop) : Prop := ∀ r h' n', Pc r h' n' → (∃ (w : Int64) (g : Nat → Int64), r = .inl (some (.long w)) ∧ h' 84 = .inl (1, 1, .inr (.inl g))) ∨ r = .inr 0
def et_lokV (Pc : et_R → (Nat → et_MC) → Nat → Prop) : Prop := ∀ r h' n', Pc r h' n' → r = .inl none ∨ r = .inr 0
set_option maxHeartbeats 4000000 in
set_option maxRecDepth 100000 in
theorem c_L_rule {sc : et_X} {h : Nat → et_MC} {dc n mcc msc : Nat} {fs : List Value} {Pc : et_R → (Nat → et_MC) → Nat → Prop} (hcn : et_Cn sc Y_E_rule dc [.ref 0] h n mcc msc Pc) (h0 : h 0 = .inr (6, fs)) (hI : et_lok Pc true) : et_Cn sc Y_L_rule (dc + 1) [.ref 0, .ref 84] h n mcc msc (et_lp Pc) := by
  refine et_Cn.of 1 rfl rfl (by decide) mS_L_rule.1 ?_
  refine et_aload_n (i := 1) d_L_rule_0 rfl rfl ?_
  refine et_iconst (v := 0) d_L_rule_1 (by decide) ?_
  refine et_aload_n (i := 0) d_L_rule_2 rfl rfl ?_
  refine et_invVc mV_E_rule (As := []) rfl d_L_rule_3 lk_L_7 len_E_rule h0 rfl (Nat.le_of_ble_eq_true rfl) hcn (Nat.le_refl _) (by omega) (by omega) (fun v h' n' hp => ?_) (fun x a h' n' hp => ?_)
  · rcases hI _ _ _ hp with ⟨w, g, e, hg⟩ | e | ⟨_, e⟩
    · cases e
      refine et_i2l d_L_rule_6 rfl ?_
      refine et_last d_L_rule_7 hg (vp_in_nI (show 0 < 1 by decide) (by decide)) ?_
      refine et_goto (tgt := 17) d_L_rule_8 (by decide) ?_
      refine et_iconst (v := 0) d_L_rule_17 (by decide) ?_
      exact et_iret d_L_rule_18 rfl (by omega) (by omega) (Or.inl ⟨w, h', hp, rfl, fun k e => by simp [va_up, e], _, by simp [va_up]; rfl, by simp [vp_updL]⟩)
    · cases e
    · cases e
  · rcases hI _ _ _ hp with ⟨w, g, e, _⟩ | e | ⟨e2, e⟩
    · cases e
    · cases e
      refine ⟨11, Or.inl ⟨rfl, 0, 8, 13, [(0, 8, 14, 15)], rfl, cl_L_13, ca_0, by decide, by decide, by decide⟩, ?_⟩
      refine et_astore_n (i := 2) (lv' := [_, _, _]) d_L_rule_11 rfl (by decide) rfl rfl ?_
      refine et_iconst (v := 1) d_L_rule_12 (by decide) ?_
      exact et_iret d_L_rule_13 rfl (by omega) (by omega) (Or.inr ⟨0, hp, rfl⟩)
    · cases e
      refine ⟨14, Or.inr ⟨rfl, 0, 8, 11, 13, 0, 8, 15, [], rfl, cl_L_13, cl_L_15, ca_1, by decide, by decide, by decide, by decide, by decide, by decide⟩, ?_⟩
      refine et_astore_n (i := 2) (lv' := [_, _, _]) d_L_rule_14 rfl (by decide) rfl rfl ?_
      refine et_iconst (v := 2) d_L_rule_15 (by decide) ?_
      exact et_iret d_L_rule_16 rfl (by omega) (by omega) (Or.inr ⟨1, hp, rfl⟩)
set_option maxHeartbeats 4000000 in
set_option maxRecDepth 100000 in
theorem c_L_add {sc : et_X} {h : Nat → et_MC} {dc n mcc msc : Nat} {fs : List Value} {Pc : et_R → (Nat → et_MC) → Nat → Prop} (hcn : et_Cn sc Y_E_add dc [.ref 0] h n mcc msc Pc) (h0 : h 0 = .inr (6, fs)) (hI : et_lok Pc true) : et_Cn sc Y_L_add (dc + 1) [.ref 0, .ref 84] h n mcc msc (et_lp Pc) := by
  refine et_Cn.of 1 rfl rfl (by decide) mS_L_add.1 ?_
  refine et_aload_n (i := 1) d_L_add_0 rfl rfl ?_
  refine et_iconst (v := 0) d_L_add_1 (by decide) ?_
  refine et_aload_n (i := 0) d_L_add_2 rfl rfl ?_
  refine et_invVc mV_E_add (As := []) rfl d_L_add_3 lk_L_17 len_E_add h0 rfl (Nat.le_of_ble_eq_true rfl) hcn (Nat.le_refl _) (by omega) (by omega) (fun v h' n' hp => ?_) (fun x a h' n' hp => ?_)
  · rcases hI _ _ _ hp with ⟨w, g, e, hg⟩ | e | ⟨_, e⟩
    · cases e
      refine et_i2l d_L_add_6 rfl ?_
      refine et_last d_L_add_7 hg (vp_in_nI (show 0 < 1 by decide) (by decide)) ?_
      refine et_goto (tgt := 17) d_L_add_8 (by decide) ?_
      refine et_iconst (v := 0) d_L_add_17 (by decide) ?_
      exact et_iret d_L_add_18 rfl (by omega) (by omega) (Or.inl ⟨w, h', hp, rfl, fun k e => by simp [va_up, e], _, by simp [va_up]; rfl, by simp [vp_updL]⟩)
    · cases e
    · cases e
  · rcases hI _ _ _ hp with ⟨w, g, e, _⟩ | e | ⟨e2, e⟩
    · cases e
    · cases e
      refine ⟨11, Or.inl ⟨rfl, 0, 8, 13, [(0, 8, 14, 15)], rfl, cl_L_13, ca_0, by decide, by decide, by decide⟩, ?_⟩
      refine et_astore_n (i := 2) (lv' := [_, _, _]) d_L_add_11 rfl (by decide) rfl rfl ?_
      refine et_iconst (v := 1) d_L_add_12 (by decide) ?_
      exact et_iret d_L_add_13 rfl (by omega) (by omega) (Or.inr ⟨0, hp, rfl⟩)
    · cases e
      refine ⟨14, Or.inr ⟨rfl, 0, 8, 11, 13, 0, 8, 15, [], rfl, cl_L_13, cl_L_15, ca_1, by decide, by decide, by decide, by decide, by decide, by decide⟩, ?_⟩
      refine et_astore_n (i := 2) (lv' := [_, _, _]) d_L_add_14 rfl (by decide) rfl rfl ?_
      refine et_iconst (v := 2) d_L_add_15 (by decide) ?_
      exact et_iret d_L_add_16 rfl (by omega) (by omega) (Or.inr ⟨1, hp, rfl⟩)
set_option maxHeartbeats 4000000 in
set_option maxRecDepth 100000 in
theorem c_L_unite {sc : et_X} {h : Nat → et_MC} {dc n mcc msc : Nat} {fs : List Value} {Pc : et_R → (Nat → et_MC) → Nat → Prop} (hcn : et_Cn sc Y_E_unite dc [.ref 0] h n mcc msc Pc) (h0 : h 0 = .inr (6, fs)) (hI : et_lok Pc true) : et_Cn sc Y_L_unite (dc + 1) [.ref 0, .ref 84] h n mcc msc (et_lp Pc) := by
  refine et_Cn.of 1 rfl rfl (by decide) mS_L_unite.1 ?_
  refine et_aload_n (i := 1) d_L_unite_0 rfl rfl ?_
  refine et_iconst (v := 0) d_L_unite_1 (by decide) ?_
  refine et_aload_n (i := 0) d_L_unite_2 rfl rfl ?_
  refine et_invVc mV_E_unite (As := []) rfl d_L_unite_3 lk_L_20 len_E_unite h0 rfl (Nat.le_of_ble_eq_true rfl) hcn (Nat.le_refl _) (by omega) (by omega) (fun v h' n' hp => ?_) (fun x a h' n' hp => ?_)
  · rcases hI _ _ _ hp with ⟨w, g, e, hg⟩ | e | ⟨_, e⟩
    · cases e
      refine et_i2l d_L_unite_6 rfl ?_
      refine et_last d_L_unite_7 hg (vp_in_nI (show 0 < 1 by decide) (by decide)) ?_
      refine et_goto (tgt := 17) d_L_unite_8 (by decide) ?_
      refine et_iconst (v := 0) d_L_unite_17 (by decide) ?_
      exact et_iret d_L_unite_18 rfl (by omega) (by omega) (Or.inl ⟨w, h', hp, rfl, fun k e => by simp [va_up, e], _, by simp [va_up]; rfl, by simp [vp_updL]⟩)
    · cases e
    · cases e
  · rcases hI _ _ _ hp with ⟨w, g, e, _⟩ | e | ⟨e2, e⟩
    · cases e
    · cases e
      refine ⟨11, Or.inl ⟨rfl, 0, 8, 13, [(0, 8, 14, 15)], rfl, cl_L_13, ca_0, by decide, by decide, by decide⟩, ?_⟩
      refine et_astore_n (i := 2) (lv' := [_, _, _]) d_L_unite_11 rfl (by decide) rfl rfl ?_
      refine et_iconst (v := 1) d_L_unite_12 (by decide) ?_
      exact et_iret d_L_unite_13 rfl (by omega) (by omega) (Or.inr ⟨0, hp, rfl⟩)
    · cases e
      refine ⟨14, Or.inr ⟨rfl, 0, 8, 11, 13, 0, 8, 15, [], rfl, cl_L_13, cl_L_15, ca_1, by decide, by decide, by decide, by decide, by decide, by decide⟩, ?_⟩
      refine et_astore_n (i := 2) (lv' := [_, _, _]) d_L_unite_14 rfl (by decide) rfl rfl ?_
      refine et_iconst (v := 2) d_L_unite_15 (by decide) ?_
      exact et_iret d_L_unite_16 rfl (by omega) (by omega) (Or.inr ⟨1, hp, rfl⟩)
set_option maxHeartbeats 4000000 in
set_option maxRecDepth 100000 in
theorem c_L_same {sc : et_X} {h : Nat → et_MC} {dc n mcc msc : Nat} {fs : List Value} {Pc : et_R → (Nat → et_MC) → Nat → Prop} (hcn : et_Cn sc Y_E_same dc [.ref 0] h n mcc msc Pc) (h0 : h 0 = .inr (6, fs)) (hI : et_lok Pc false) : et_Cn sc Y_L_same (dc + 1) [.ref 0, .ref 84] h n mcc msc (et_lp Pc) := by
  refine et_Cn.of 1 rfl rfl (by decide) mS_L_same.1 ?_
  refine et_aload_n (i := 1) d_L_same_0 rfl rfl ?_
  refine et_iconst (v := 0) d_L_same_1 (by decide) ?_
  refine et_aload_n (i := 0) d_L_same_2 rfl rfl ?_
  refine et_invVc mV_E_same (As := []) rfl d_L_same_3 lk_L_23 len_E_same h0 rfl (Nat.le_of_ble_eq_true rfl) hcn (Nat.le_refl _) (by omega) (by omega) (fun v h' n' hp => ?_) (fun x a h' n' hp => ?_)
  · rcases hI _ _ _ hp with ⟨w, g, e, hg⟩ | e | ⟨_, e⟩
    · cases e
      refine et_i2l d_L_same_6 rfl ?_
      refine et_last d_L_same_7 hg (vp_in_nI (show 0 < 1 by decide) (by decide)) ?_
      refine et_goto (tgt := 14) d_L_same_8 (by decide) ?_
      refine et_iconst (v := 0) d_L_same_14 (by decide) ?_
      exact et_iret d_L_same_15 rfl (by omega) (by omega) (Or.inl ⟨w, h', hp, rfl, fun k e => by simp [va_up, e], _, by simp [va_up]; rfl, by simp [vp_updL]⟩)
    · cases e
    · cases e
  · rcases hI _ _ _ hp with ⟨w, g, e, _⟩ | e | ⟨e2, e⟩
    · cases e
    · cases e
      refine ⟨11, Or.inl ⟨rfl, 0, 8, 13, [], rfl, cl_L_13, ca_0, by decide, by decide, by decide⟩, ?_⟩
      refine et_astore_n (i := 2) (lv' := [_, _, _]) d_L_same_11 rfl (by decide) rfl rfl ?_
      refine et_iconst (v := 1) d_L_same_12 (by decide) ?_
      exact et_iret d_L_same_13 rfl (by omega) (by omega) (Or.inr ⟨0, hp, rfl⟩)
    · cases e2
set_option maxHeartbeats 4000000 in
set_option maxRecDepth 100000 in
theorem c_L_price {sc : et_X} {h : Nat → et_MC} {dc n mcc msc : Nat} {fs : List Value} {Pc : et_R → (Nat → et_MC) → Nat → Prop} (x y : Int32) (hcn : et_Cn sc Y_E_price dc [.ref 0, .int x, .int y] h n mcc msc Pc) (h0 : h 0 = .inr (6, fs)) (hI : et_lokV Pc) : et_Cn sc Y_L_price (dc + 1) [.ref 0, .int x, .int y] h n mcc msc (et_lpV Pc) := by
  refine et_Cn.of 1 rfl rfl (by decide) mS_L_price.1 ?_
  refine et_aload_n (i := 0) d_L_price_0 rfl rfl ?_
  refine et_iload_n (i := 1) d_L_price_1 rfl rfl ?_
  refine et_iload_n (i := 2) d_L_price_2 rfl rfl ?_
  refine et_invVc mV_E_price (As := [_, _]) rfl d_L_price_3 lk_L_26 len_E_price h0 rfl (Nat.le_of_ble_eq_true rfl) hcn (Nat.le_refl _) (by omega) (by omega) (fun v h' n' hp => ?_) (fun x a h' n' hp => ?_)
  · rcases hI _ _ _ hp with e | e
    · cases e
      refine et_goto (tgt := 12) d_L_price_6 (by decide) ?_
      refine et_iconst (v := 0) d_L_price_12 (by decide) ?_
      exact et_iret d_L_price_13 rfl (by omega) (by omega) (Or.inl ⟨hp, rfl⟩)
    · cases e
  · rcases hI _ _ _ hp with e | e
    · cases e
    · cases e
      refine ⟨9, Or.inl ⟨rfl, 0, 6, 13, [], rfl, cl_L_13, ca_0, by decide, by decide, by decide⟩, ?_⟩
      refine et_astore_n (i := 3) (lv' := [_, _, _, _]) d_L_price_9 rfl (by decide) rfl rfl ?_
      refine et_iconst (v := 1) d_L_price_10 (by decide) ?_
      exact et_iret d_L_price_11 rfl (by omega) (by omega) (Or.inr ⟨0, hp, rfl⟩)
set_option maxHeartbeats 4000000 in
set_option maxRecDepth 100000 in
theorem c_L_rounds {sc : et_X} {h : Nat → et_MC} {dc n mcc msc : Nat} {fs : List Value} {Pc : et_R → (Nat → et_MC) → Nat → Prop} (x : Int32) (hcn : et_Cn sc Y_E_rounds dc [.ref 0, .int x] h n mcc msc Pc) (h0 : h 0 = .inr (6, fs)) (hI : et_lok Pc false) : et_Cn sc Y_L_rounds (dc + 1) [.ref 0, .int x, .ref 84] h n mcc msc (et_lp Pc) := by
  refine et_Cn.of 1 rfl rfl (by decide) mS_L_rounds.1 ?_
  refine et_aload_n (i := 2) d_L_rounds_0 rfl rfl ?_
  refine et_iconst (v := 0) d_L_rounds_1 (by decide) ?_
  refine et_aload_n (i := 0) d_L_rounds_2 rfl rfl ?_
  refine et_iload_n (i := 1) d_L_rounds_3 rfl rfl ?_
  refine et_invVc mV_E_rounds (As := [_]) rfl d_L_rounds_4 lk_L_30 len_E_rounds h0 rfl (Nat.le_of_ble_eq_true rfl) hcn (Nat.le_refl _) (by omega) (by omega) (fun v h' n' hp => ?_) (fun x a h' n' hp => ?_)
  · rcases hI _ _ _ hp with ⟨w, g, e, hg⟩ | e | ⟨_, e⟩
    · cases e
      refine et_i2l d_L_rounds_7 rfl ?_
      refine et_last d_L_rounds_8 hg (vp_in_nI (show 0 < 1 by decide) (by decide)) ?_
      refine et_goto (tgt := 15) d_L_rounds_9 (by decide) ?_
      refine et_iconst (v := 0) d_L_rounds_15 (by decide) ?_
      exact et_iret d_L_rounds_16 rfl (by omega) (by omega) (Or.inl ⟨w, h', hp, rfl, fun k e => by simp [va_up, e], _, by simp [va_up]; rfl, by simp [vp_updL]⟩)
    · cases e
    · cases e
  · rcases hI _ _ _ hp with ⟨w, g, e, _⟩ | e | ⟨e2, e⟩
    · cases e
    · cases e
      refine ⟨12, Or.inl ⟨rfl, 0, 9, 13, [], rfl, cl_L_13, ca_0, by decide, by decide, by decide⟩, ?_⟩
      refine et_astore_n (i := 3) (lv' := [_, _, _, _]) d_L_rounds_12 rfl (by decide) rfl rfl ?_
      refine et_iconst (v := 1) d_L_rounds_13 (by decide) ?_
      exact et_iret d_L_rounds_14 rfl (by omega) (by omega) (Or.inr ⟨0, hp, rfl⟩)
    · cases e2
set_option maxHeartbeats 4000000 in
set_option maxRecDepth 100000 in
theorem c_L_members {sc : et_X} {h : Nat → et_MC} {dc n mcc msc : Nat} {fs : List Value} {Pc : et_R → (Nat → et_MC) → Nat → Prop} (hcn : et_Cn sc Y_E_members dc [.ref 0] h n mcc msc Pc) (h0 : h 0 = .inr (6, fs)) (hI : et_lok Pc false) : et_Cn sc Y_L_members (dc + 1) [.ref 0, .ref 84] h n mcc msc (et_lp Pc) := by
  refine et_Cn.of 1 rfl rfl (by decide) mS_L_members.1 ?_
  refine et_aload_n (i := 1) d_L_members_0 rfl rfl ?_
  refine et_iconst (v := 0) d_L_members_1 (by decide) ?_
  refine et_aload_n (i := 0) d_L_members_2 rfl rfl ?_
  refine et_invVc mV_E_members (As := []) rfl d_L_members_3 lk_L_34 len_E_members h0 rfl (Nat.le_of_ble_eq_true rfl) hcn (Nat.le_refl _) (by omega) (by omega) (fun v h' n' hp => ?_) (fun x a h' n' hp => ?_)
  · rcases hI _ _ _ hp with ⟨w, g, e, hg⟩ | e | ⟨_, e⟩
    · cases e
      refine et_i2l d_L_members_6 rfl ?_
      refine et_last d_L_members_7 hg (vp_in_nI (show 0 < 1 by decide) (by decide)) ?_
      refine et_goto (tgt := 14) d_L_members_8 (by decide) ?_
      refine et_iconst (v := 0) d_L_members_14 (by decide) ?_
      exact et_iret d_L_members_15 rfl (by omega) (by omega) (Or.inl ⟨w, h', hp, rfl, fun k e => by simp [va_up, e], _, by simp [va_up]; rfl, by simp [vp_updL]⟩)
    · cases e
    · cases e
  · rcases hI _ _ _ hp with ⟨w, g, e, _⟩ | e | ⟨e2, e⟩
    · cases e
    · cases e
      refine ⟨11, Or.inl ⟨rfl, 0, 8, 13, [], rfl, cl_L_13, ca_0, by decide, by decide, by decide⟩, ?_⟩
      refine et_astore_n (i := 2) (lv' := [_, _, _]) d_L_members_11 rfl (by decide) rfl rfl ?_
      refine et_iconst (v := 1) d_L_members_12 (by decide) ?_
      exact et_iret d_L_members_13 rfl (by omega) (by omega) (Or.inr ⟨0, hp, rfl⟩)
    · cases e2
set_option maxHeartbeats 4000000 in
set_option maxRecDepth 100000 in
theorem c_L_cost {sc : et_X} {h : Nat → et_MC} {dc n mcc msc : Nat} {fs : List Value} {Pc : et_R → (Nat → et_MC) → Nat → Prop} (hcn : et_Cn sc Y_E_cost dc [.ref 0] h n mcc msc Pc) (h0 : h 0 = .inr (6, fs)) (hI : et_lokL Pc) : et_Cn sc Y_L_cost (dc + 1) [.ref 0, .ref 84] h n mcc msc (et_lpL Pc) := by
  refine et_Cn.of 1 rfl rfl (by decide) mS_L_cost.1 ?_
  refine et_aload_n (i := 1) d_L_cost_0 rfl rfl ?_
  refine et_iconst (v := 0) d_L_cost_1 (by decide) ?_
  refine et_aload_n (i := 0) d_L_cost_2 rfl rfl ?_
  refine et_invVc mV_E_cost (As := []) rfl d_L_cost_3 lk_L_37 len_E_cost h0 rfl (Nat.le_of_ble_eq_true rfl) hcn (Nat.le_refl _) (by omega) (by omega) (fun v h' n' hp => ?_) (fun x a h' n' hp => ?_)
  · rcases hI _ _ _ hp with ⟨w, g, e, hg⟩ | e
    · cases e
      refine et_last d_L_cost_6 hg (vp_in_nI (show 0 < 1 by decide) (by decide)) ?_
      refine et_goto (tgt := 13) d_L_cost_7 (by decide) ?_
      refine et_iconst (v := 0) d_L_cost_13 (by decide) ?_
      exact et_iret d_L_cost_14 rfl (by omega) (by omega) (Or.inl ⟨w, h', hp, rfl, fun k e => by simp [va_up, e], _, by simp [va_up]; rfl, by simp [vp_updL]⟩)
    · cases e
  · rcases hI _ _ _ hp with ⟨w, g, e, _⟩ | e
    · cases e
    · cases e
      refine ⟨10, Or.inl ⟨rfl, 0, 7, 13, [], rfl, cl_L_13, ca_0, by decide, by decide, by decide⟩, ?_⟩
      refine et_astore_n (i := 2) (lv' := [_, _, _]) d_L_cost_10 rfl (by decide) rfl rfl ?_
      refine et_iconst (v := 1) d_L_cost_11 (by decide) ?_
      exact et_iret d_L_cost_12 rfl (by omega) (by omega) (Or.inr ⟨0, hp, rfl⟩)
set_option maxHeartbeats 4000000 in
set_option maxRecDepth 100000 in
theorem c_L_best {sc : et_X} {h : Nat → et_MC} {dc n mcc msc : Nat} {fs : List Value} {Pc : et_R → (Nat → et_MC) → Nat → Prop} (hcn : et_Cn sc Y_E_best dc [.ref 0] h n mcc msc Pc) (h0 : h 0 = .inr (6, fs)) (hI : et_lok Pc false) : et_Cn sc Y_L_best (dc + 1) [.ref 0, .ref 84] h n mcc msc (et_lp Pc) := by
  refine et_Cn.of 1 rfl rfl (by decide) mS_L_best.1 ?_
  refine et_aload_n (i := 1) d_L_best_0 rfl rfl ?_
  refine et_iconst (v := 0) d_L_best_1 (by decide) ?_
  refine et_aload_n (i := 0) d_L_best_2 rfl rfl ?_
  refine et_invVc mV_E_best (As := []) rfl d_L_best_3 lk_L_41 len_E_best h0 rfl (Nat.le_of_ble_eq_true rfl) hcn (Nat.le_refl _) (by omega) (by omega) (fun v h' n' hp => ?_) (fun x a h' n' hp => ?_)
  · rcases hI _ _ _ hp with ⟨w, g, e, hg⟩ | e | ⟨_, e⟩
    · cases e
      refine et_i2l d_L_best_6 rfl ?_
      refine et_last d_L_best_7 hg (vp_in_nI (show 0 < 1 by decide) (by decide)) ?_
      refine et_goto (tgt := 14) d_L_best_8 (by decide) ?_
      refine et_iconst (v := 0) d_L_best_14 (by decide) ?_
      exact et_iret d_L_best_15 rfl (by omega) (by omega) (Or.inl ⟨w, h', hp, rfl, fun k e => by simp [va_up, e], _, by simp [va_up]; rfl, by simp [vp_updL]⟩)
    · cases e
    · cases e
  · rcases hI _ _ _ hp with ⟨w, g, e, _⟩ | e | ⟨e2, e⟩
    · cases e
    · cases e
      refine ⟨11, Or.inl ⟨rfl, 0, 8, 13, [], rfl, cl_L_13, ca_0, by decide, by decide, by decide⟩, ?_⟩
      refine et_astore_n (i := 2) (lv' := [_, _, _]) d_L_best_11 rfl (by decide) rfl rfl ?_
      refine et_iconst (v := 1) d_L_best_12 (by decide) ?_
      exact et_iret d_L_best_13 rfl (by omega) (by omega) (Or.inr ⟨0, hp, rfl⟩)
    · cases e2
