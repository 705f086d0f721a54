/-! ===== the model's calls: add, same, members, unite ===== -/
def et_ME (th : Int32) (f : Nat → Int32) (sz : Nat) (wp ru : Int32) (g : gr) (h : Nat → et_MC) : Prop := (∃ (a_ en al se : Int32) (u : Bool) (rs : Int32) (dc ds : Int64), h 64 = et_Mo th (nI sz) a_ wp en al se ru (nI (gN g)) (nI (gC g)) (bI u) rs dc ds) ∧ h 65 = .inl (0, 60, .inl f) ∧ et_mg (gI g) h ∧ (∃ b, h 73 = .inl (0, 104, .inl b)) ∧ (∃ b, h 74 = .inl (0, 62, .inl b)) ∧ ∃ b, h 75 = .inl (0, 3, .inl b)
def et_fm (h h' : Nat → et_MC) : Prop := ∀ k, (k < 64 ∨ k = 66 ∨ k = 67 ∨ 75 < k) → h' k = h k
theorem et_mg_nm {x : gx} {y : Nat → Nat} {h : Nat → et_MC} (g : et_mg x h) (e : ∀ c, c < gC x.1 → x.2 c = y c) : et_mg (x.1, y) h := by
  obtain ⟨b68, b69, b70, b71, b72, h68, h69, h70, h71, h72, k1, k2⟩ := g
  exact ⟨b68, b69, b70, b71, b72, h68, h69, h70, h71, h72, k1, fun c hc => by rw [k2 c hc, e c hc]⟩
theorem gEval_lim {lim lim' : Nat} {vs : Nat → Nat} : ∀ {w : List Int32} {x : gx}, gEval false lim vs w x = gEval false lim' vs w x
  | [], x => rfl
  | c :: w, x => by
    rw [gEval, gEval, gEval_lim (lim' := lim') (w := w)]
    cases gEval false lim' vs w x with
    | none => rfl
    | some q =>
      show gPush false lim vs c q.1 q.2 = gPush false lim' vs c q.1 q.2
      have hh : ∀ l r, gHome false lim q.2 c l r = gHome false lim' q.2 c l r := fun l r => by
        unfold gHome
        cases gFind q.2.1 c l r with
        | some c => rfl
        | none => rw [if_neg (by rintro ⟨z, -⟩; cases z), if_neg (by rintro ⟨z, -⟩; cases z)]
      rcases gPush_cases (vs := vs) (c := c) (stk := q.1) with e | ⟨l, r, k, e⟩
      · rw [e, e]
      · rw [e, e, hh]
theorem gLook_some {g : gr} {w : List Int32} {c : Nat} {x' : gx} (h : gEval false 1000 (fun _ => 0) w (gI g) = some ([c], x')) : gLook (gI g) w = c + 1 := by
  unfold gLook
  rw [gEval_lim (lim' := 1000), h]
theorem gLook_none {g : gr} {w : List Int32} (h : gEval false 1000 (fun _ => 0) w (gI g) = none) : gLook (gI g) w = 0 := by
  unfold gLook
  rw [gEval_lim (lim' := 1000), h]
theorem nv_of {f : Nat → Int32} {fr to : Nat} {va : Nat → Int32} {g : gr} (nv : ∀ j, fr ≤ j → j < to → ¬ et_isv (f j)) : ∀ i, fr ≤ i → i < to → et_isv (f i) → va (f i - 97).toNatClampNeg = nI ((fun _ => 0 : Nat → Nat) (f i - 97).toNatClampNeg) ∧ (fun _ => 0 : Nat → Nat) (f i - 97).toNatClampNeg < gC g := fun i a b c => absurd c (nv i a b)
theorem gN_id {g : gr} {y : gx} (nm : ∀ c, (c < gC (gI g).1 → y.2 c = (gI g).2 c) ∧ (gC (gI g).1 ≤ c → c < gC y.1 → y.2 c = c)) : ∀ c, c < gC y.1 → y.2 c = c := fun c hc => by
  by_cases z : c < gC g
  · exact (nm c).1 z
  · exact (nm c).2 (Nat.le_of_not_lt z) hc
set_option maxHeartbeats 4000000 in
set_option maxRecDepth 100000 in
theorem c_M_asked {sc : et_X} {h : Nat → et_MC} {d n : Nat} {f : Nat → Int32} {sz : Nat} {th wp ru : Int32} {g : gr} (hsz : sz ≤ 60) (hok : gG 40 g) (hM : et_ME th f sz wp ru g h) : et_Cn sc Y_M_asked (d + 4) [.ref 64] h n 0 0 (fun r h' n' => n' = n ∧ et_fm h h' ∧ (((fwN f false false sz 0 1 0).1 ≠ 0 ∧ r = .inl (some (.int 0)) ∧ et_ME 1 f sz (eI (fwN f false false sz 0 1 0).1) ru g h') ∨ ((fwN f false false sz 0 1 0).1 = 0 ∧ r = .inl (some (.int (eI (gLook (gI g) (sg f sz sz))))) ∧ gLook (gI g) (sg f sz sz) ≤ gC g ∧ et_ME 0 f 0 wp ru g h'))) := by
  refine et_Cn.of 1 rfl rfl (by decide) mV_M_asked.1 ?_
  obtain ⟨⟨a_, en, al, se, u, rs, dc, ds, h64⟩, h65, hg, ⟨b73, h73⟩, ⟨b74, h74⟩, ⟨b75, h75⟩⟩ := hM
  refine et_aload_n (i := 0) d_M_asked_0 rfl rfl ?_
  refine et_invV mV_M_readTerm (As := []) rfl d_M_asked_1 lk_M_157 len_M_readTerm h64 rfl (Nat.le_of_ble_eq_true rfl) (c_M_readTerm (d := d) hsz h64 h65) (Nat.le_refl _) (Nat.le_of_ble_eq_true rfl) (Nat.le_of_ble_eq_true rfl) (fun v h' n' hp => ?_) (fun x h' n' hp => by obtain ⟨-, -, a', en', se', ⟨-, e, -⟩ | ⟨-, e, -⟩⟩ := hp <;> cases e)
  obtain ⟨hn2, fr, a1, en1, se1, hres⟩ := hp
  replace hn2 := hn2.symm
  subst hn2
  have j65 := (fr 65 (by decide)).trans h65
  have jg := hg.same (fun k a b => fr k (by omega))
  have j73 := (fr 73 (by decide)).trans h73
  have j74 := (fr 74 (by decide)).trans h74
  have j75 := (fr 75 (by decide)).trans h75
  rcases hres with ⟨q0, hv, j64⟩ | ⟨q0, hv, j64⟩
  · cases hv
    obtain ⟨mm, hw, nv⟩ := fw_term q0
    refine et_if_ne (tgt := 13) d_M_asked_4 (by decide) (fun _ => ?_) (fun q => absurd q (by decide))
    refine et_aload_n (i := 0) d_M_asked_13 rfl rfl ?_
    refine et_iconst (v := 0) d_M_asked_14 (by decide) ?_
    refine et_putf (ci := 7) 0 d_M_asked_15 j64 rfl in_M ty_M nm_M (by decide) fl_M_72 rfl rfl (fun _ => rfl) (fun _ => rfl) (Nat.le_of_ble_eq_true rfl) (fs' := [_, _, _, _, _, _, _, _, _, _, _, _, _, _, _, _, _, _, _, _, _, _, _, _, _, _, _, _, _, _, _, _, _]) rfl ?_
    refine et_aload_n (i := 0) d_M_asked_18 rfl rfl ?_
    refine et_iconst (v := 0) d_M_asked_19 (by decide) ?_
    refine et_aload_n (i := 0) d_M_asked_20 rfl rfl ?_
    refine et_getf (ci := 7) 2 d_M_asked_21 rfl rfl in_M (by decide) fl_M_79 rfl ?_
    refine et_iconst (v := 0) d_M_asked_24 (by decide) ?_
    refine et_invV mV_M_workText (As := [_, _, _]) rfl d_M_asked_25 lk_M_160 len_M_workText rfl rfl (Nat.le_of_ble_eq_true rfl) (c_M_workText (d := d) (vs := fun _ => 0) false 0 sz hok rfl j74 j75 (jg.same (fun k a b => va_ne (by omega))) hw (nv_of (fun j _ b => nv j b)) j65 hsz) (Nat.le_refl _) (Nat.le_of_ble_eq_true rfl) (Nat.le_of_ble_eq_true rfl) (fun v h2 n' hp => ?_) (fun y h' n' hp => by obtain ⟨-, -, rs', sa', -, ⟨c, x', -, e, -⟩ | ⟨-, -, e, -⟩⟩ := hp <;> cases e)
    obtain ⟨hn2, fr2, rs2, sa2, k74, hres⟩ := hp
    replace hn2 := hn2.symm
    subst hn2
    have ff : et_fm h h2 := fun k hk => (fr2 k (by omega)).trans ((va_ne (by omega)).trans (fr k (by omega)))
    have fin : ∀ lk, gLook (gI g) (sg f sz sz) = lk → lk ≤ gC g → h2 64 = et_Mo 0 (nI sz) a1 wp en1 al se1 ru (nI (gN g)) (nI (gC g)) (bI u) rs2 dc ds → et_mg (gI g) h2 → et_M sc Y_M_asked (d + 4) 0 0 (fun r h' n' => n' = n ∧ et_fm h h' ∧ (((fwN f false false sz 0 1 0).1 ≠ 0 ∧ r = .inl (some (.int 0)) ∧ et_ME 1 f sz (eI (fwN f false false sz 0 1 0).1) ru g h') ∨ ((fwN f false false sz 0 1 0).1 = 0 ∧ r = .inl (some (.int (eI (gLook (gI g) (sg f sz sz))))) ∧ gLook (gI g) (sg f sz sz) ≤ gC g ∧ et_ME 0 f 0 wp ru g h'))) 28 [some (.ref 64), none] [.int (eI lk)] h2 n 0 0 := by
      intro lk hlk hle k64 g2
      refine et_istore_n (i := 1) (lv' := [_, _]) d_M_asked_28 rfl (by decide) rfl rfl ?_
      refine et_aload_n (i := 0) d_M_asked_29 rfl rfl ?_
      refine et_iconst (v := 0) d_M_asked_30 (by decide) ?_
      refine et_putf (ci := 7) 2 d_M_asked_31 k64 rfl in_M ty_M nm_M (by decide) fl_M_79 rfl rfl (fun _ => rfl) (fun _ => rfl) (Nat.le_of_ble_eq_true rfl) (fs' := [_, _, _, _, _, _, _, _, _, _, _, _, _, _, _, _, _, _, _, _, _, _, _, _, _, _, _, _, _, _, _, _, _]) rfl ?_
      refine et_iload_n (i := 1) d_M_asked_34 rfl rfl ?_
      exact et_iret d_M_asked_35 rfl (Nat.le_refl _) (Nat.le_refl _) ⟨rfl, fun k hk => (va_ne (by omega)).trans (ff k hk), Or.inr ⟨q0, by rw [hlk], by rw [hlk]; exact hle, ⟨_, _, _, _, _, _, _, _, va_eq⟩, (va_ne (by decide)).trans ((fr2 65 (by omega)).trans ((va_ne (by decide)).trans j65)), g2.same (fun k a b => va_ne (by omega)), ⟨_, (va_ne (by decide)).trans ((fr2 73 (by omega)).trans ((va_ne (by decide)).trans j73))⟩, ⟨_, (va_ne (by decide)).trans k74⟩, _, (va_ne (by decide)).trans ((fr2 75 (by omega)).trans ((va_ne (by decide)).trans j75))⟩⟩
    rcases hres with ⟨c, x2, ev, hv, k64, g2⟩ | ⟨ev, -, hv, k64, g2⟩
    · cases hv
      have hx := gEval_look ev
      subst hx
      have hc := (gEval_nw (B := 1000) (g := g) (Nat.le_refl _) hw (fun i a b c => absurd c (nv i b)) (hok.mono (by omega)) (gNw.refl _) (Nat.le_refl _) ev).2.2.2.2 c (List.mem_singleton.mpr rfl)
      rw [← eI_s]
      exact fin (c + 1) (gLook_some ev) hc k64 g2
    · cases hv
      rw [← eI_0]
      exact fin 0 (gLook_none ev) (Nat.zero_le _) k64 g2
  · cases hv
    refine et_if_ne (tgt := 13) d_M_asked_4 (by decide) (fun q => absurd rfl q) (fun _ => ?_)
    refine et_aload_n (i := 0) d_M_asked_7 rfl rfl ?_
    refine et_iconst (v := 1) d_M_asked_8 (by decide) ?_
    refine et_invV mV_M_refuse (As := [_]) rfl d_M_asked_9 lk_M_116 len_M_refuse j64 rfl (Nat.le_of_ble_eq_true rfl) (c_M_refuse (d := d + 3) 1 j64) (Nat.le_refl _) (Nat.le_of_ble_eq_true rfl) (Nat.le_of_ble_eq_true rfl) (fun v h' n' hp => ?_) (fun x h' n' hp => by cases hp.1)
    obtain ⟨hv, hn2, hh2⟩ := hp
    cases hv
    subst hh2
    replace hn2 := hn2.symm
    subst hn2
    exact et_iret d_M_asked_12 rfl (Nat.le_refl _) (Nat.le_refl _) ⟨rfl, fun k hk => (va_ne (by omega)).trans (fr k (by omega)), Or.inl ⟨q0, rfl, ⟨⟨_, _, _, _, _, _, _, _, va_eq⟩, (va_ne (by decide)).trans j65, jg.same (fun k a b => va_ne (by omega)), ⟨_, (va_ne (by decide)).trans j73⟩, ⟨_, (va_ne (by decide)).trans j74⟩, _, (va_ne (by decide)).trans j75⟩⟩⟩
set_option maxHeartbeats 4000000 in
set_option maxRecDepth 100000 in
theorem c_M_members {sc : et_X} {h : Nat → et_MC} {d n : Nat} {f : Nat → Int32} {sz : Nat} {th wp ru : Int32} {g : gr} (hsz : sz ≤ 60) (hok : gG 40 g) (hM : et_ME th f sz wp ru g h) : et_Cn sc Y_M_members (d + 5) [.ref 64] h n 0 0 (fun r h' n' => n' = n ∧ et_fm h h' ∧ (((fwN f false false sz 0 1 0).1 ≠ 0 ∧ r = .inl (some (.int 0)) ∧ et_ME 1 f sz (eI (fwN f false false sz 0 1 0).1) ru g h') ∨ ((fwN f false false sz 0 1 0).1 = 0 ∧ r = .inl (some (.int (if (gLook (gI g) (sg f sz sz)) = 0 then -1 else nI (gCnt g ((gLook (gI g) (sg f sz sz)) - 1))))) ∧ et_ME 0 f 0 wp ru g h'))) := by
  refine et_Cn.of 3 rfl rfl (by decide) mV_M_members.1 ?_
  obtain ⟨⟨a_, en, al, se, u, rs, dc, ds, h64⟩, hMr⟩ := id hM
  refine et_aload_n (i := 0) d_M_members_0 rfl rfl ?_
  refine et_invV mV_M_asked (As := []) rfl d_M_members_1 lk_M_196 len_M_asked h64 rfl (Nat.le_of_ble_eq_true rfl) (c_M_asked (d := d) hsz hok hM) (Nat.le_refl _) (Nat.le_of_ble_eq_true rfl) (Nat.le_of_ble_eq_true rfl) (fun v h' n' hp => ?_) (fun x h' n' hp => by obtain ⟨-, -, ⟨-, e, -⟩ | ⟨-, e, -⟩⟩ := hp <;> cases e)
  obtain ⟨hn2, fr, hres⟩ := hp
  replace hn2 := hn2.symm
  subst hn2
  rcases hres with ⟨q0, hv, hM1⟩ | ⟨q0, hv, hlk, hM1⟩
  · cases hv
    obtain ⟨⟨a1, en1, al1, se1, u1, rs1, dc1, ds1, j64⟩, hMr1⟩ := id hM1
    refine et_istore_n (i := 1) (lv' := [_, _, _, _]) d_M_members_4 rfl (by decide) rfl rfl ?_
    refine et_aload_n (i := 0) d_M_members_5 rfl rfl ?_
    refine et_getf (ci := 7) 0 d_M_members_6 j64 rfl in_M (by decide) fl_M_72 rfl ?_
    refine et_if_le (tgt := 14) d_M_members_9 (by decide) (fun q => absurd q (by decide)) (fun _ => ?_)
    refine et_iconst (v := 0) d_M_members_12 (by decide) ?_
    exact et_iret d_M_members_13 rfl (Nat.le_refl _) (Nat.le_refl _) ⟨rfl, fr, Or.inl ⟨q0, rfl, hM1⟩⟩
  · cases hv
    generalize gLook (gI g) (sg f sz sz) = lk at hlk ⊢
    obtain ⟨⟨a1, en1, al1, se1, u1, rs1, dc1, ds1, j64⟩, -, ⟨b68, b69, b70, b71, b72, h68, h69, h70, h71, h72, hnode, -⟩, -⟩ := id hM1
    have o1 := hok.1.1
    have o2 := hok.1.2.1
    have loop : ∀ (t i : Nat), i + t = gN g → et_M sc Y_M_members (d + 5) 0 0 (fun r h' n' => n' = n ∧ et_fm h h' ∧ (((fwN f false false sz 0 1 0).1 ≠ 0 ∧ r = .inl (some (.int 0)) ∧ et_ME 1 f sz (eI (fwN f false false sz 0 1 0).1) ru g h') ∨ ((fwN f false false sz 0 1 0).1 = 0 ∧ r = .inl (some (.int (if lk = 0 then -1 else nI (gCnt g (lk - 1))))) ∧ et_ME 0 f 0 wp ru g h'))) 18 [some (.ref 64), some (.int (eI lk)), some (.int (nI (if lk = 0 then 0 else gCntN g (lk - 1) i))), some (.int (nI i))] [] h' n 0 0 := by
      intro t
      induction t with
      | zero =>
        intro i hi
        obtain rfl : i = gN g := by omega
        refine et_iload_n (i := 3) d_M_members_18 rfl rfl ?_
        refine et_aload_n (i := 0) d_M_members_19 rfl rfl ?_
        refine et_getf (ci := 7) 11 d_M_members_20 j64 rfl in_M (by decide) fl_M_119 rfl ?_
        refine et_icmp_ge (tgt := 50) d_M_members_23 (by decide) (fun _ => ?_) (fun q => absurd (nI_le (Nat.le_refl _) (by omega)) q)
        refine et_iload_n (i := 1) d_M_members_50 rfl rfl ?_
        by_cases z : lk = 0
        · subst z
          rw [eI_0]
          refine et_if_ge (tgt := 58) d_M_members_51 (by decide) (fun q => absurd q (by decide)) (fun _ => ?_)
          refine et_iconst (v := (-1)) d_M_members_54 (by decide) ?_
          refine et_goto (tgt := 59) d_M_members_55 (by decide) ?_
          exact et_iret d_M_members_59 rfl (Nat.le_refl _) (Nat.le_refl _) ⟨rfl, fr, Or.inr ⟨q0, by rw [if_pos rfl], hM1⟩⟩
        · obtain ⟨k, rfl⟩ : ∃ k, lk = k + 1 := ⟨lk - 1, by omega⟩
          rw [eI_s]
          refine et_if_ge (tgt := 58) d_M_members_51 (by decide) (fun _ => ?_) (fun q => absurd (nI_pos' (by omega)) q)
          refine et_iload_n (i := 2) d_M_members_58 rfl rfl ?_
          exact et_iret d_M_members_59 rfl (Nat.le_refl _) (Nat.le_refl _) ⟨rfl, fr, Or.inr ⟨q0, by rw [if_neg z, if_neg z]; rfl, hM1⟩⟩
      | succ t ih =>
        intro i hi
        have oh := (hok.1.2.2 i (by omega)).1
        have hc := gCntN_le g (lk - 1) i
        have nx : ∀ v : Int32, v = nI (if lk = 0 then 0 else gCntN g (lk - 1) (i + 1)) → et_M sc Y_M_members (d + 5) 0 0 (fun r h' n' => n' = n ∧ et_fm h h' ∧ (((fwN f false false sz 0 1 0).1 ≠ 0 ∧ r = .inl (some (.int 0)) ∧ et_ME 1 f sz (eI (fwN f false false sz 0 1 0).1) ru g h') ∨ ((fwN f false false sz 0 1 0).1 = 0 ∧ r = .inl (some (.int (if lk = 0 then -1 else nI (gCnt g (lk - 1))))) ∧ et_ME 0 f 0 wp ru g h'))) 43 [some (.ref 64), some (.int (eI lk)), some (.int (nI (if lk = 0 then 0 else gCntN g (lk - 1) i))), some (.int (nI i))] [.int v] h' n 0 0 := by
          intro v hv
          subst hv
          refine et_istore_n (i := 2) (lv' := [_, _, _, _]) d_M_members_43 rfl (by decide) rfl rfl ?_
          refine et_iinc (lv' := [_, _, _, _]) d_M_members_44 rfl (v := nI (i + 1)) (nI_1 i) (by decide) rfl rfl ?_
          refine et_goto (tgt := 18) d_M_members_47 (by decide) ?_
          exact ih (i + 1) (by omega)
        refine et_iload_n (i := 3) d_M_members_18 rfl rfl ?_
        refine et_aload_n (i := 0) d_M_members_19 rfl rfl ?_
        refine et_getf (ci := 7) 11 d_M_members_20 j64 rfl in_M (by decide) fl_M_119 rfl ?_
        refine et_icmp_ge (tgt := 50) d_M_members_23 (by decide) (fun q => absurd q (nI_ge (by omega) (by omega))) (fun _ => ?_)
        refine et_aload_n (i := 0) d_M_members_26 rfl rfl ?_
        refine et_getf (ci := 7) 16 d_M_members_27 j64 rfl in_M (by decide) fl_M_32 rfl ?_
        refine et_iload_n (i := 3) d_M_members_30 rfl rfl ?_
        refine et_ialn d_M_members_31 h71 (by omega) (by first | decide | omega) ?_
        refine et_iload_n (i := 1) d_M_members_32 rfl rfl ?_
        rw [(hnode i (by show i < gN g; omega)).2.2.2, show nI (gH (gI g).1 i) = eI (gH g i + 1) from (eI_s _).symm]
        refine et_icmp_ne (tgt := 42) d_M_members_33 (by decide) (fun q => ?_) (fun q => ?_)
        · refine et_iload_n (i := 2) d_M_members_42 rfl rfl ?_
          refine nx _ ?_
          by_cases z : lk = 0
          · rw [if_pos z, if_pos z]
          · rw [if_neg z, if_neg z, gCntN, if_neg (fun w => q (by rw [w]; congr 1; omega))]; rfl
        · have q2 : gH g i + 1 = lk := (eI_eq (by omega) (by omega)).mp q
          refine et_iload_n (i := 2) d_M_members_36 rfl rfl ?_
          refine et_iconst (v := 1) d_M_members_37 (by decide) ?_
          refine et_iadd d_M_members_38 ?_
          rw [nI_1]
          refine et_goto (tgt := 43) d_M_members_39 (by decide) ?_
          refine nx _ ?_
          rw [if_neg (by omega), if_neg (by omega), gCntN, if_pos (by omega)]
    refine et_istore_n (i := 1) (lv' := [_, _, _, _]) d_M_members_4 rfl (by decide) rfl rfl ?_
    refine et_aload_n (i := 0) d_M_members_5 rfl rfl ?_
    refine et_getf (ci := 7) 0 d_M_members_6 j64 rfl in_M (by decide) fl_M_72 rfl ?_
    refine et_if_le (tgt := 14) d_M_members_9 (by decide) (fun _ => ?_) (fun q => absurd (by decide) q)
    refine et_iconst (v := 0) d_M_members_14 (by decide) ?_
    refine et_istore_n (i := 2) (lv' := [_, _, _, _]) d_M_members_15 rfl (by decide) rfl rfl ?_
    refine et_iconst (v := 0) d_M_members_16 (by decide) ?_
    refine et_istore_n (i := 3) (lv' := [_, _, _, _]) d_M_members_17 rfl (by decide) rfl rfl ?_
    have := loop (gN g) 0 (by omega)
    rw [show nI (if lk = 0 then 0 else gCntN g (lk - 1) 0) = 0 by split <;> exact nI_0, nI_0] at this
    exact this
set_option maxHeartbeats 4000000 in
set_option maxRecDepth 100000 in
theorem c_M_add {sc : et_X} {h : Nat → et_MC} {d n : Nat} {f : Nat → Int32} {sz : Nat} {th wp ru : Int32} {g : gr} (hsz : sz ≤ 60) (hok : gG 40 g) (hM : et_ME th f sz wp ru g h) : et_Cn sc Y_M_add (d + 4) [.ref 64] h n 0 0 (fun r h' n' => n' = n ∧ et_fm h h' ∧ (((fwN f false false sz 0 1 0).1 ≠ 0 ∧ r = .inl (some (.int 0)) ∧ et_ME 1 f sz (eI (fwN f false false sz 0 1 0).1) ru g h') ∨ ((fwN f false false sz 0 1 0).1 = 0 ∧ ∃ c y, gEval true 1000 (fun _ => 0) (sg f sz sz) (gI g) = some ([c], y) ∧ ((40 < gN y.1 ∧ r = .inl (some (.int 0)) ∧ et_ME 2 f sz wp ru g h') ∨ (gN y.1 ≤ 40 ∧ r = .inl (some (.int (nI (gN y.1)))) ∧ et_ME 0 f 0 wp ru y.1 h'))))) := by
  refine et_Cn.of 3 rfl rfl (by decide) mV_M_add.1 ?_
  obtain ⟨⟨a_, en, al, se, u, rs, dc, ds, h64⟩, h65, hg, ⟨b73, h73⟩, ⟨b74, h74⟩, ⟨b75, h75⟩⟩ := hM
  refine et_aload_n (i := 0) d_M_add_0 rfl rfl ?_
  refine et_iconst (v := 0) d_M_add_1 (by decide) ?_
  refine et_putf (ci := 7) 0 d_M_add_2 h64 rfl in_M ty_M nm_M (by decide) fl_M_72 rfl rfl (fun _ => rfl) (fun _ => rfl) (Nat.le_of_ble_eq_true rfl) (fs' := [_, _, _, _, _, _, _, _, _, _, _, _, _, _, _, _, _, _, _, _, _, _, _, _, _, _, _, _, _, _, _, _, _]) rfl ?_
  refine et_aload_n (i := 0) d_M_add_5 rfl rfl ?_
  refine et_invV mV_M_readTerm (As := []) rfl d_M_add_6 lk_M_157 len_M_readTerm rfl rfl (Nat.le_of_ble_eq_true rfl) (c_M_readTerm (d := d) hsz va_eq h65) (Nat.le_refl _) (Nat.le_of_ble_eq_true rfl) (Nat.le_of_ble_eq_true rfl) (fun v h' n' hp => ?_) (fun x h' n' hp => by obtain ⟨-, -, a', en', se', ⟨-, e, -⟩ | ⟨-, e, -⟩⟩ := hp <;> cases e)
  obtain ⟨hn2, fr0, a1, en1, se1, hres⟩ := hp
  replace hn2 := hn2.symm
  subst hn2
  have fr : ∀ k, k ≠ 64 → h' k = h k := fun k hk => (fr0 k hk).trans (va_ne hk)
  have j65 := (fr 65 (by decide)).trans h65
  have jg := hg.same (fun k a b => fr k (by omega))
  have j73 := (fr 73 (by decide)).trans h73
  have j74 := (fr 74 (by decide)).trans h74
  have j75 := (fr 75 (by decide)).trans h75
  rcases hres with ⟨q0, hv, j64⟩ | ⟨q0, hv, j64⟩
  · cases hv
    obtain ⟨mm, hw, nv⟩ := fw_term q0
    refine et_if_ne (tgt := 18) d_M_add_9 (by decide) (fun _ => ?_) (fun q => absurd q (by decide))
    refine et_aload_n (i := 0) d_M_add_18 rfl rfl ?_
    refine et_getf (ci := 7) 11 d_M_add_19 j64 rfl in_M (by decide) fl_M_119 rfl ?_
    refine et_istore_n (i := 1) (lv' := [_, _, _, _]) d_M_add_22 rfl (by decide) rfl rfl ?_
    refine et_aload_n (i := 0) d_M_add_23 rfl rfl ?_
    refine et_getf (ci := 7) 12 d_M_add_24 j64 rfl in_M (by decide) fl_M_126 rfl ?_
    refine et_istore_n (i := 2) (lv' := [_, _, _, _]) d_M_add_27 rfl (by decide) rfl rfl ?_
    refine et_aload_n (i := 0) d_M_add_28 rfl rfl ?_
    refine et_iconst (v := 0) d_M_add_29 (by decide) ?_
    refine et_aload_n (i := 0) d_M_add_30 rfl rfl ?_
    refine et_getf (ci := 7) 2 d_M_add_31 j64 rfl in_M (by decide) fl_M_79 rfl ?_
    refine et_iconst (v := 1) d_M_add_34 (by decide) ?_
    refine et_invV mV_M_workText (As := [_, _, _]) rfl d_M_add_35 lk_M_160 len_M_workText j64 rfl (Nat.le_of_ble_eq_true rfl) (c_M_workText (d := d) (vs := fun _ => 0) true 0 sz hok j64 j74 j75 jg hw (nv_of (fun j _ b => nv j b)) j65 hsz) (Nat.le_refl _) (Nat.le_of_ble_eq_true rfl) (Nat.le_of_ble_eq_true rfl) (fun v h2 n' hp => ?_) (fun y h' n' hp => by obtain ⟨-, -, rs', sa', -, ⟨c, x', -, e, -⟩ | ⟨-, -, e, -⟩⟩ := hp <;> cases e)
    obtain ⟨hn2, fr2, rs2, sa2, k74, hres⟩ := hp
    replace hn2 := hn2.symm
    subst hn2
    rcases hres with ⟨c, y, ev, hv, k64, g2⟩ | ⟨-, e, -⟩
    rotate_left
    · cases e
    cases hv
    have n1 := gEval_bd ev
    rw [sg_length] at n1
    have n2 := hok.1.1
    have n1 : gN y.1 ≤ gN g + (sz - 0) := n1
    have le1 : gLe g y.1 := gEval_le (B := 1000) (Nat.le_refl _) hw (fun i a b c => absurd c (nv i b)) (hok.mono (by omega)) (Nat.le_refl _) ev
    have nm := gEval_nm (gw := true) hw (fun i a b c => absurd c (nv i b)) (fun q hq => (hok.1.2.2 q hq).1) (Nat.le_refl _) ev
    have G2 := (gEval_nw (B := 1000) (g := g) (Nat.le_refl _) hw (fun i a b c => absurd c (nv i b)) (hok.mono (by omega)) (gNw.refl _) (Nat.le_refl _) ev).1
    have ff : et_fm h h2 := fun k hk => (fr2 k (by omega)).trans (fr k (by omega))
    have k65 := (fr2 65 (by omega)).trans j65
    have k73 := (fr2 73 (by omega)).trans j73
    have k75 := (fr2 75 (by omega)).trans j75
    refine et_istore_n (i := 3) (lv' := [_, _, _, _]) d_M_add_38 rfl (by decide) rfl rfl ?_
    refine et_aload_n (i := 0) d_M_add_39 rfl rfl ?_
    refine et_getf (ci := 7) 11 d_M_add_40 k64 rfl in_M (by decide) fl_M_119 rfl ?_
    refine et_bipush (v := 40) d_M_add_43 (by decide) ?_
    refine et_icmp_le (tgt := 60) d_M_add_45 (by decide) (fun q => ?_) (fun q => ?_)
    · have q2 : gN y.1 ≤ 40 := (nI_leI (b := 40) (by omega) (by omega)).mp q
      refine et_aload_n (i := 0) d_M_add_60 rfl rfl ?_
      refine et_iconst (v := 0) d_M_add_61 (by decide) ?_
      refine et_putf (ci := 7) 2 d_M_add_62 k64 rfl in_M ty_M nm_M (by decide) fl_M_79 rfl rfl (fun _ => rfl) (fun _ => rfl) (Nat.le_of_ble_eq_true rfl) (fs' := [_, _, _, _, _, _, _, _, _, _, _, _, _, _, _, _, _, _, _, _, _, _, _, _, _, _, _, _, _, _, _, _, _]) rfl ?_
      refine et_aload_n (i := 0) d_M_add_65 rfl rfl ?_
      refine et_getf (ci := 7) 11 d_M_add_66 rfl rfl in_M (by decide) fl_M_119 rfl ?_
      exact et_iret d_M_add_69 rfl (Nat.le_refl _) (Nat.le_refl _) ⟨rfl, fun k hk => (va_ne (by omega)).trans (ff k hk), Or.inr ⟨q0, c, y, ev, Or.inr ⟨q2, rfl, ⟨_, _, _, _, _, _, _, _, va_eq⟩, (va_ne (by decide)).trans k65, et_mg_nm (g2.same (fun k a b => va_ne (by omega))) (fun c hc => (gN_id nm c hc)), ⟨_, (va_ne (by decide)).trans k73⟩, ⟨_, (va_ne (by decide)).trans k74⟩, _, (va_ne (by decide)).trans k75⟩⟩⟩
    · have q2 : 40 < gN y.1 := Nat.lt_of_not_le fun z => q ((nI_leI (b := 40) (by omega) (by omega)).mpr z)
      refine et_aload_n (i := 0) d_M_add_48 rfl rfl ?_
      refine et_iload_n (i := 1) d_M_add_49 rfl rfl ?_
      refine et_iload_n (i := 2) d_M_add_50 rfl rfl ?_
      refine et_invV mV_M_cut (As := [_, _]) rfl d_M_add_51 lk_M_163 len_M_cut k64 rfl (Nat.le_of_ble_eq_true rfl) (c_M_cut (d := d + 3) (x := y) g (by have := hok.1.2.1; omega) le1 k64 g2) (Nat.le_refl _) (Nat.le_of_ble_eq_true rfl) (Nat.le_of_ble_eq_true rfl) (fun v h3 n' hp => ?_) (fun x h' n' hp => by cases hp.1)
      obtain ⟨hv, hn2, fr3, l64, g3⟩ := hp
      cases hv
      replace hn2 := hn2.symm
      subst hn2
      refine et_aload_n (i := 0) d_M_add_54 rfl rfl ?_
      refine et_iconst (v := 2) d_M_add_55 (by decide) ?_
      refine et_invV mV_M_refuse (As := [_]) rfl d_M_add_56 lk_M_116 len_M_refuse l64 rfl (Nat.le_of_ble_eq_true rfl) (c_M_refuse (d := d + 3) 2 l64) (Nat.le_refl _) (Nat.le_of_ble_eq_true rfl) (Nat.le_of_ble_eq_true rfl) (fun v h' n' hp => ?_) (fun x h' n' hp => by cases hp.1)
      obtain ⟨hv, hn2, hh2⟩ := hp
      cases hv
      subst hh2
      replace hn2 := hn2.symm
      subst hn2
      exact et_iret d_M_add_59 rfl (Nat.le_refl _) (Nat.le_refl _) ⟨rfl, fun k hk => (va_ne (by omega)).trans ((fr3 k (by omega) (by omega)).trans (ff k hk)), Or.inr ⟨q0, c, y, ev, Or.inl ⟨q2, rfl, ⟨_, _, _, _, _, _, _, _, va_eq⟩, (va_ne (by decide)).trans ((fr3 65 (by decide) (by decide)).trans k65), g3.same (fun k a b => va_ne (by omega)), ⟨_, (va_ne (by decide)).trans ((fr3 73 (by decide) (by decide)).trans k73)⟩, ⟨_, (va_ne (by decide)).trans ((fr3 74 (by decide) (by decide)).trans k74)⟩, _, (va_ne (by decide)).trans ((fr3 75 (by decide) (by decide)).trans k75)⟩⟩⟩
  · cases hv
    refine et_if_ne (tgt := 18) d_M_add_9 (by decide) (fun q => absurd rfl q) (fun _ => ?_)
    refine et_aload_n (i := 0) d_M_add_12 rfl rfl ?_
    refine et_iconst (v := 1) d_M_add_13 (by decide) ?_
    refine et_invV mV_M_refuse (As := [_]) rfl d_M_add_14 lk_M_116 len_M_refuse j64 rfl (Nat.le_of_ble_eq_true rfl) (c_M_refuse (d := d + 3) 1 j64) (Nat.le_refl _) (Nat.le_of_ble_eq_true rfl) (Nat.le_of_ble_eq_true rfl) (fun v h' n' hp => ?_) (fun x h' n' hp => by cases hp.1)
    obtain ⟨hv, hn2, hh2⟩ := hp
    cases hv
    subst hh2
    replace hn2 := hn2.symm
    subst hn2
    exact et_iret d_M_add_17 rfl (Nat.le_refl _) (Nat.le_refl _) ⟨rfl, fun k hk => (va_ne (by omega)).trans (fr k (by omega)), Or.inl ⟨q0, rfl, ⟨⟨_, _, _, _, _, _, _, _, va_eq⟩, (va_ne (by decide)).trans j65, jg.same (fun k a b => va_ne (by omega)), ⟨_, (va_ne (by decide)).trans j73⟩, ⟨_, (va_ne (by decide)).trans j74⟩, _, (va_ne (by decide)).trans j75⟩⟩⟩
set_option maxHeartbeats 4000000 in
set_option maxRecDepth 100000 in
theorem c_M_same {sc : et_X} {h : Nat → et_MC} {d n : Nat} {f : Nat → Int32} {sz : Nat} {th wp ru : Int32} {g : gr} (hsz : sz ≤ 60) (hok : gG 40 g) (hM : et_ME th f sz wp ru g h) : et_Cn sc Y_M_same (d + 4) [.ref 64] h n 0 0 (fun r h' n' => n' = n ∧ et_fm h h' ∧ (((fwN f true false sz 0 1 0).1 ≠ 0 ∧ r = .inl (some (.int 0)) ∧ et_ME 1 f sz (eI (fwN f true false sz 0 1 0).1) ru g h') ∨ ((fwN f true false sz 0 1 0).1 = 0 ∧ ∃ e, (fwN f true false sz 0 1 0).2 = e + 1 ∧ e < sz ∧ r = .inl (some (.int (if (gLook (gI g) (sg f e e)) = 0 ∨ (gLook (gI g) (sg f sz (sz - (e + 1)))) = 0 then -1 else if (gLook (gI g) (sg f e e)) = (gLook (gI g) (sg f sz (sz - (e + 1)))) then 1 else 0))) ∧ et_ME 0 f 0 wp ru g h'))) := by
  refine et_Cn.of 3 rfl rfl (by decide) mV_M_same.1 ?_
  obtain ⟨⟨a_, en, al, se, u, rs, dc, ds, h64⟩, h65, hg, ⟨b73, h73⟩, ⟨b74, h74⟩, ⟨b75, h75⟩⟩ := hM
  refine et_aload_n (i := 0) d_M_same_0 rfl rfl ?_
  refine et_iconst (v := 0) d_M_same_1 (by decide) ?_
  refine et_putf (ci := 7) 0 d_M_same_2 h64 rfl in_M ty_M nm_M (by decide) fl_M_72 rfl rfl (fun _ => rfl) (fun _ => rfl) (Nat.le_of_ble_eq_true rfl) (fs' := [_, _, _, _, _, _, _, _, _, _, _, _, _, _, _, _, _, _, _, _, _, _, _, _, _, _, _, _, _, _, _, _, _]) rfl ?_
  refine et_aload_n (i := 0) d_M_same_5 rfl rfl ?_
  refine et_bipush (v := 60) d_M_same_6 (by decide) ?_
  refine et_iconst (v := 0) d_M_same_8 (by decide) ?_
  refine et_invV mV_M_readBoth (As := [_, _]) rfl d_M_same_9 lk_M_109 len_M_readBoth rfl rfl (Nat.le_of_ble_eq_true rfl) (c_M_readBoth (d := d) false hsz va_eq h65) (Nat.le_refl _) (Nat.le_of_ble_eq_true rfl) (Nat.le_of_ble_eq_true rfl) (fun v h' n' hp => ?_) (fun x h' n' hp => by obtain ⟨-, -, a', en', se', ⟨-, e, -⟩ | ⟨-, e, -⟩⟩ := hp <;> cases e)
  obtain ⟨hn2, fr0, a1, en1, se1, hres⟩ := hp
  replace hn2 := hn2.symm
  subst hn2
  have fr : ∀ k, k ≠ 64 → h' k = h k := fun k hk => (fr0 k hk).trans (va_ne hk)
  have j65 := (fr 65 (by decide)).trans h65
  have jg := hg.same (fun k a b => fr k (by omega))
  have j73 := (fr 73 (by decide)).trans h73
  have j74 := (fr 74 (by decide)).trans h74
  have j75 := (fr 75 (by decide)).trans h75
  rcases hres with ⟨q0, hv, j64⟩ | ⟨q0, hv, j64⟩
  · cases hv
    obtain ⟨e, hes, hq2, -, ⟨m1, hw1⟩, ⟨m2, hw2⟩, n1, n2⟩ := fw_eq q0
    have nv1 : ∀ j, 0 ≤ j → j < e → ¬ et_isv (f j) := fun j _ b => ptI_nv (n1 j b)
    have nv2 : ∀ j, e + 1 ≤ j → j < sz → ¬ et_isv (f j) := fun j a b => ptI_nv (n2 j a b)
    have hq3 : nI (fwN f true false sz 0 1 0).2 = nI (e + 1) := by rw [hq2]
    rw [hq3]
    refine et_istore_n (i := 1) (lv' := [_, _, _, _]) d_M_same_12 rfl (by decide) rfl rfl ?_
    refine et_iload_n (i := 1) d_M_same_13 rfl rfl ?_
    refine et_if_ge (tgt := 23) d_M_same_14 (by decide) (fun _ => ?_) (fun q => absurd (nI_pos' (by omega)) q)
    refine et_aload_n (i := 0) d_M_same_23 rfl rfl ?_
    refine et_iconst (v := 0) d_M_same_24 (by decide) ?_
    refine et_iload_n (i := 1) d_M_same_25 rfl rfl ?_
    refine et_iconst (v := 1) d_M_same_26 (by decide) ?_
    refine et_isub d_M_same_27 ?_
    rw [nI_pred]
    refine et_iconst (v := 0) d_M_same_28 (by decide) ?_
    refine et_invV mV_M_workText (As := [_, _, _]) rfl d_M_same_29 lk_M_160 len_M_workText j64 rfl (Nat.le_of_ble_eq_true rfl) (c_M_workText (d := d) (vs := fun _ => 0) false 0 e hok j64 j74 j75 jg hw1 (nv_of nv1) j65 (by omega)) (Nat.le_refl _) (Nat.le_of_ble_eq_true rfl) (Nat.le_of_ble_eq_true rfl) (fun v h2 n' hp => ?_) (fun y h' n' hp => by obtain ⟨-, -, rs', sa', -, ⟨c, x', -, e, -⟩ | ⟨-, -, e, -⟩⟩ := hp <;> cases e)
    obtain ⟨hn2, fr2, rs2, sa2, k74, hres⟩ := hp
    replace hn2 := hn2.symm
    subst hn2
    have k65 := (fr2 65 (by omega)).trans j65
    have k73 := (fr2 73 (by omega)).trans j73
    have k75 := (fr2 75 (by omega)).trans j75
    have first : ∃ lk, gLook (gI g) (sg f e e) = lk ∧ lk ≤ gC g ∧ v = some (.int (eI lk)) ∧ h2 64 = et_Mo 0 (nI sz) a1 wp en1 al se1 ru (nI (gN g)) (nI (gC g)) (bI u) rs2 dc ds ∧ et_mg (gI g) h2 := by
      rcases hres with ⟨c, x2, ev, hv, k64, g2⟩ | ⟨ev, -, hv, k64, g2⟩
      · cases hv
        have hx := gEval_look ev
        subst hx
        have hc := (gEval_nw (B := 1000) (g := g) (Nat.le_refl _) hw1 (fun i a b c => absurd c (nv1 i a b)) (hok.mono (by omega)) (gNw.refl _) (Nat.le_refl _) ev).2.2.2.2 c (List.mem_singleton.mpr rfl)
        exact ⟨c + 1, gLook_some ev, hc, by rw [eI_s], k64, g2⟩
      · cases hv
        exact ⟨0, gLook_none ev, Nat.zero_le _, by rw [eI_0], k64, g2⟩
    obtain ⟨lk1, e1, b1, rfl, k64, g2⟩ := first
    refine et_istore_n (i := 2) (lv' := [_, _, _, _]) d_M_same_32 rfl (by decide) rfl rfl ?_
    refine et_aload_n (i := 0) d_M_same_33 rfl rfl ?_
    refine et_iload_n (i := 1) d_M_same_34 rfl rfl ?_
    refine et_aload_n (i := 0) d_M_same_35 rfl rfl ?_
    refine et_getf (ci := 7) 2 d_M_same_36 k64 rfl in_M (by decide) fl_M_79 rfl ?_
    refine et_iconst (v := 0) d_M_same_39 (by decide) ?_
    refine et_invV mV_M_workText (As := [_, _, _]) rfl d_M_same_40 lk_M_160 len_M_workText k64 rfl (Nat.le_of_ble_eq_true rfl) (c_M_workText (d := d) (vs := fun _ => 0) false (e + 1) sz hok k64 k74 k75 g2 hw2 (nv_of nv2) k65 hsz) (Nat.le_refl _) (Nat.le_of_ble_eq_true rfl) (Nat.le_of_ble_eq_true rfl) (fun v h3 n' hp => ?_) (fun y h' n' hp => by obtain ⟨-, -, rs', sa', -, ⟨c, x', -, e, -⟩ | ⟨-, -, e, -⟩⟩ := hp <;> cases e)
    obtain ⟨hn2, fr3, rs3, sa3, l74, hres⟩ := hp
    replace hn2 := hn2.symm
    subst hn2
    have second : ∃ lk, gLook (gI g) (sg f sz (sz - (e + 1))) = lk ∧ lk ≤ gC g ∧ v = some (.int (eI lk)) ∧ h3 64 = et_Mo 0 (nI sz) a1 wp en1 al se1 ru (nI (gN g)) (nI (gC g)) (bI u) rs3 dc ds ∧ et_mg (gI g) h3 := by
      rcases hres with ⟨c, x2, ev, hv, k64, g2⟩ | ⟨ev, -, hv, k64, g2⟩
      · cases hv
        have hx := gEval_look ev
        subst hx
        have hc := (gEval_nw (B := 1000) (g := g) (Nat.le_refl _) hw2 (fun i a b c => absurd c (nv2 i a b)) (hok.mono (by omega)) (gNw.refl _) (Nat.le_refl _) ev).2.2.2.2 c (List.mem_singleton.mpr rfl)
        exact ⟨c + 1, gLook_some ev, hc, by rw [eI_s], k64, g2⟩
      · cases hv
        exact ⟨0, gLook_none ev, Nat.zero_le _, by rw [eI_0], k64, g2⟩
    obtain ⟨lk2, e2, b2, rfl, l64, g3⟩ := second
    have o1 := hok.1.1
    have o2 := hok.1.2.1
    have res : ∀ w : Int32, w = (if lk1 = 0 ∨ lk2 = 0 then -1 else if lk1 = lk2 then 1 else 0) → ((fun r h' n' => n' = n ∧ et_fm h h' ∧ (((fwN f true false sz 0 1 0).1 ≠ 0 ∧ r = .inl (some (.int 0)) ∧ et_ME 1 f sz (eI (fwN f true false sz 0 1 0).1) ru g h') ∨ ((fwN f true false sz 0 1 0).1 = 0 ∧ ∃ e, (fwN f true false sz 0 1 0).2 = e + 1 ∧ e < sz ∧ r = .inl (some (.int (if (gLook (gI g) (sg f e e)) = 0 ∨ (gLook (gI g) (sg f sz (sz - (e + 1)))) = 0 then -1 else if (gLook (gI g) (sg f e e)) = (gLook (gI g) (sg f sz (sz - (e + 1)))) then 1 else 0))) ∧ et_ME 0 f 0 wp ru g h'))) : et_R → (Nat → et_MC) → Nat → Prop) (.inl (some (.int w))) (va_up h3 64 (et_Mo 0 0 a1 wp en1 al se1 ru (nI (gN g)) (nI (gC g)) (bI u) rs3 dc ds)) n := fun w hw => ⟨rfl, fun k hk => (va_ne (by omega)).trans ((fr3 k (by omega)).trans ((fr2 k (by omega)).trans (fr k (by omega)))), Or.inr ⟨q0, e, hq2, hes, by rw [e1, e2, hw], ⟨_, _, _, _, _, _, _, _, va_eq⟩, (va_ne (by decide)).trans ((fr3 65 (by omega)).trans k65), g3.same (fun k a b => va_ne (by omega)), ⟨_, (va_ne (by decide)).trans ((fr3 73 (by omega)).trans k73)⟩, ⟨_, (va_ne (by decide)).trans l74⟩, _, (va_ne (by decide)).trans ((fr3 75 (by omega)).trans k75)⟩⟩
    refine et_istore_n (i := 3) (lv' := [_, _, _, _]) d_M_same_43 rfl (by decide) rfl rfl ?_
    refine et_aload_n (i := 0) d_M_same_44 rfl rfl ?_
    refine et_iconst (v := 0) d_M_same_45 (by decide) ?_
    refine et_putf (ci := 7) 2 d_M_same_46 l64 rfl in_M ty_M nm_M (by decide) fl_M_79 rfl rfl (fun _ => rfl) (fun _ => rfl) (Nat.le_of_ble_eq_true rfl) (fs' := [_, _, _, _, _, _, _, _, _, _, _, _, _, _, _, _, _, _, _, _, _, _, _, _, _, _, _, _, _, _, _, _, _]) rfl ?_
    refine et_iload_n (i := 2) d_M_same_49 rfl rfl ?_
    by_cases z1 : lk1 = 0
    · subst z1
      rw [eI_0]
      refine et_if_lt (tgt := 57) d_M_same_50 (by decide) (fun _ => ?_) (fun q => absurd (by decide) q)
      refine et_iconst (v := (-1)) d_M_same_57 (by decide) ?_
      refine et_goto (tgt := 71) d_M_same_58 (by decide) ?_
      exact et_iret d_M_same_71 rfl (Nat.le_refl _) (Nat.le_refl _) (res _ (by rw [if_pos (Or.inl rfl)]))
    · obtain ⟨k1, rfl⟩ : ∃ k, lk1 = k + 1 := ⟨lk1 - 1, by omega⟩
      rw [eI_s]
      refine et_if_lt (tgt := 57) d_M_same_50 (by decide) (fun q => absurd q (nI_n0 (by omega))) (fun _ => ?_)
      refine et_iload_n (i := 3) d_M_same_53 rfl rfl ?_
      by_cases z2 : lk2 = 0
      · subst z2
        rw [eI_0]
        refine et_if_ge (tgt := 61) d_M_same_54 (by decide) (fun q => absurd q (by decide)) (fun _ => ?_)
        refine et_iconst (v := (-1)) d_M_same_57 (by decide) ?_
        refine et_goto (tgt := 71) d_M_same_58 (by decide) ?_
        exact et_iret d_M_same_71 rfl (Nat.le_refl _) (Nat.le_refl _) (res _ (by rw [if_pos (Or.inr rfl)]))
      · obtain ⟨k2, rfl⟩ : ∃ k, lk2 = k + 1 := ⟨lk2 - 1, by omega⟩
        rw [eI_s]
        refine et_if_ge (tgt := 61) d_M_same_54 (by decide) (fun _ => ?_) (fun q => absurd (nI_pos' (by omega)) q)
        refine et_iload_n (i := 2) d_M_same_61 rfl rfl ?_
        refine et_iload_n (i := 3) d_M_same_62 rfl rfl ?_
        refine et_icmp_ne (tgt := 70) d_M_same_63 (by decide) (fun q => ?_) (fun q => ?_)
        · refine et_iconst (v := 0) d_M_same_70 (by decide) ?_
          exact et_iret d_M_same_71 rfl (Nat.le_refl _) (Nat.le_refl _) (res _ (by rw [if_neg (by omega), if_neg (fun w => q (by rw [show k1 = k2 by omega]))]))
        · have q2 := (nI_eq (by omega) (by omega)).mp q
          refine et_iconst (v := 1) d_M_same_66 (by decide) ?_
          refine et_goto (tgt := 71) d_M_same_67 (by decide) ?_
          exact et_iret d_M_same_71 rfl (Nat.le_refl _) (Nat.le_refl _) (res _ (by rw [if_neg (by omega), if_pos (by omega)]))
  · cases hv
    refine et_istore_n (i := 1) (lv' := [_, _, _, _]) d_M_same_12 rfl (by decide) rfl rfl ?_
    refine et_iload_n (i := 1) d_M_same_13 rfl rfl ?_
    refine et_if_ge (tgt := 23) d_M_same_14 (by decide) (fun q => absurd q (by decide)) (fun _ => ?_)
    refine et_aload_n (i := 0) d_M_same_17 rfl rfl ?_
    refine et_iconst (v := 1) d_M_same_18 (by decide) ?_
    refine et_invV mV_M_refuse (As := [_]) rfl d_M_same_19 lk_M_116 len_M_refuse j64 rfl (Nat.le_of_ble_eq_true rfl) (c_M_refuse (d := d + 3) 1 j64) (Nat.le_refl _) (Nat.le_of_ble_eq_true rfl) (Nat.le_of_ble_eq_true rfl) (fun v h' n' hp => ?_) (fun x h' n' hp => by cases hp.1)
    obtain ⟨hv, hn2, hh2⟩ := hp
    cases hv
    subst hh2
    replace hn2 := hn2.symm
    subst hn2
    exact et_iret d_M_same_22 rfl (Nat.le_refl _) (Nat.le_refl _) ⟨rfl, fun k hk => (va_ne (by omega)).trans (fr k (by omega)), Or.inl ⟨q0, rfl, ⟨⟨_, _, _, _, _, _, _, _, va_eq⟩, (va_ne (by decide)).trans j65, jg.same (fun k a b => va_ne (by omega)), ⟨_, (va_ne (by decide)).trans j73⟩, ⟨_, (va_ne (by decide)).trans j74⟩, _, (va_ne (by decide)).trans j75⟩⟩⟩
set_option maxHeartbeats 4000000 in
set_option maxRecDepth 100000 in
theorem c_M_unite {sc : et_X} {h : Nat → et_MC} {d n : Nat} {f : Nat → Int32} {sz : Nat} {th wp ru : Int32} {g : gr} (hsz : sz ≤ 60) (hok : gG 40 g) (hM : et_ME th f sz wp ru g h) : et_Cn sc Y_M_unite (d + 4) [.ref 64] h n 0 0 (fun r h' n' => n' = n ∧ et_fm h h' ∧ (((fwN f true false sz 0 1 0).1 ≠ 0 ∧ r = .inl (some (.int 0)) ∧ et_ME 1 f sz (eI (fwN f true false sz 0 1 0).1) ru g h') ∨ ((fwN f true false sz 0 1 0).1 = 0 ∧ ∃ e, (fwN f true false sz 0 1 0).2 = e + 1 ∧ e < sz ∧ ∃ a x1, gEval true 1000 (fun _ => 0) (sg f e e) (gI g) = some ([a], x1) ∧ ((40 < gN x1.1 ∧ r = .inl (some (.int 0)) ∧ et_ME 2 f sz wp ru g h') ∨ (gN x1.1 ≤ 40 ∧ ∃ b x2, gEval true 1000 (fun _ => 0) (sg f sz (sz - (e + 1))) x1 = some ([b], x2) ∧ ((40 < gN x2.1 ∧ r = .inl (some (.int 0)) ∧ et_ME 2 f sz wp ru g h') ∨ (gN x2.1 ≤ 40 ∧ ∃ g', gQuot x2.1 (fun u v => u = a ∧ v = b) g' ∧ r = .inl (some (.int (nI (gC g')))) ∧ et_ME 0 f 0 wp ru g' h'))))))) := by
  refine et_Cn.of 5 rfl rfl (by decide) mV_M_unite.1 ?_
  obtain ⟨⟨a_, en, al, se, u, rs, dc, ds, h64⟩, h65, hg, ⟨b73, h73⟩, ⟨b74, h74⟩, ⟨b75, h75⟩⟩ := hM
  refine et_aload_n (i := 0) d_M_unite_0 rfl rfl ?_
  refine et_iconst (v := 0) d_M_unite_1 (by decide) ?_
  refine et_putf (ci := 7) 0 d_M_unite_2 h64 rfl in_M ty_M nm_M (by decide) fl_M_72 rfl rfl (fun _ => rfl) (fun _ => rfl) (Nat.le_of_ble_eq_true rfl) (fs' := [_, _, _, _, _, _, _, _, _, _, _, _, _, _, _, _, _, _, _, _, _, _, _, _, _, _, _, _, _, _, _, _, _]) rfl ?_
  refine et_aload_n (i := 0) d_M_unite_5 rfl rfl ?_
  refine et_bipush (v := 60) d_M_unite_6 (by decide) ?_
  refine et_iconst (v := 0) d_M_unite_8 (by decide) ?_
  refine et_invV mV_M_readBoth (As := [_, _]) rfl d_M_unite_9 lk_M_109 len_M_readBoth rfl rfl (Nat.le_of_ble_eq_true rfl) (c_M_readBoth (d := d) false hsz va_eq h65) (Nat.le_refl _) (Nat.le_of_ble_eq_true rfl) (Nat.le_of_ble_eq_true rfl) (fun v h' n' hp => ?_) (fun x h' n' hp => by obtain ⟨-, -, a', en', se', ⟨-, e, -⟩ | ⟨-, e, -⟩⟩ := hp <;> cases e)
  obtain ⟨hn2, fr0, a1, en1, se1, hres⟩ := hp
  replace hn2 := hn2.symm
  subst hn2
  have fr : ∀ k, k ≠ 64 → h' k = h k := fun k hk => (fr0 k hk).trans (va_ne hk)
  have j65 := (fr 65 (by decide)).trans h65
  have jg := hg.same (fun k a b => fr k (by omega))
  have j73 := (fr 73 (by decide)).trans h73
  have j74 := (fr 74 (by decide)).trans h74
  have j75 := (fr 75 (by decide)).trans h75
  rcases hres with ⟨q0, hv, j64⟩ | ⟨q0, hv, j64⟩
  · cases hv
    obtain ⟨e, hes, hq2, -, ⟨m1, hw1⟩, ⟨m2, hw2⟩, n1, n2⟩ := fw_eq q0
    have nv1 : ∀ j, 0 ≤ j → j < e → ¬ et_isv (f j) := fun j _ b => ptI_nv (n1 j b)
    have nv2 : ∀ j, e + 1 ≤ j → j < sz → ¬ et_isv (f j) := fun j a b => ptI_nv (n2 j a b)
    have hq3 : nI (fwN f true false sz 0 1 0).2 = nI (e + 1) := by rw [hq2]
    rw [hq3]
    refine et_istore_n (i := 1) (lv' := [_, _, _, _, _, _]) d_M_unite_12 rfl (by decide) rfl rfl ?_
    refine et_iload_n (i := 1) d_M_unite_13 rfl rfl ?_
    refine et_if_ge (tgt := 23) d_M_unite_14 (by decide) (fun _ => ?_) (fun q => absurd (nI_pos' (by omega)) q)
    refine et_aload_n (i := 0) d_M_unite_23 rfl rfl ?_
    refine et_getf (ci := 7) 11 d_M_unite_24 j64 rfl in_M (by decide) fl_M_119 rfl ?_
    refine et_istore_n (i := 2) (lv' := [_, _, _, _, _, _]) d_M_unite_27 rfl (by decide) rfl rfl ?_
    refine et_aload_n (i := 0) d_M_unite_28 rfl rfl ?_
    refine et_getf (ci := 7) 12 d_M_unite_29 j64 rfl in_M (by decide) fl_M_126 rfl ?_
    refine et_istore_n (i := 3) (lv' := [_, _, _, _, _, _]) d_M_unite_32 rfl (by decide) rfl rfl ?_
    refine et_aload_n (i := 0) d_M_unite_33 rfl rfl ?_
    refine et_iconst (v := 0) d_M_unite_34 (by decide) ?_
    refine et_iload_n (i := 1) d_M_unite_35 rfl rfl ?_
    refine et_iconst (v := 1) d_M_unite_36 (by decide) ?_
    refine et_isub d_M_unite_37 ?_
    rw [nI_pred]
    refine et_iconst (v := 1) d_M_unite_38 (by decide) ?_
    refine et_invV mV_M_workText (As := [_, _, _]) rfl d_M_unite_39 lk_M_160 len_M_workText j64 rfl (Nat.le_of_ble_eq_true rfl) (c_M_workText (d := d) (vs := fun _ => 0) true 0 e hok j64 j74 j75 jg hw1 (nv_of nv1) j65 (by omega)) (Nat.le_refl _) (Nat.le_of_ble_eq_true rfl) (Nat.le_of_ble_eq_true rfl) (fun v h2 n' hp => ?_) (fun y h' n' hp => by obtain ⟨-, -, rs', sa', -, ⟨c, x', -, e, -⟩ | ⟨-, -, e, -⟩⟩ := hp <;> cases e)
    obtain ⟨hn2, fr2, rs2, sa2, k74, hres⟩ := hp
    replace hn2 := hn2.symm
    subst hn2
    rcases hres with ⟨a, x1, ev, hv, k64, g2⟩ | ⟨-, e, -⟩
    rotate_left
    · cases e
    cases hv
    have n1 := gEval_bd ev
    rw [sg_length] at n1
    have n2 := hok.1.1
    have n1 : gN x1.1 ≤ gN g + (e - 0) := n1
    have vv1 : ∀ i, 0 ≤ i → i < e → et_isv (f i) → (fun _ => 0 : Nat → Nat) (f i - 97).toNatClampNeg < gC g := fun i a b c => absurd c (nv1 i a b)
    have le1 : gLe g x1.1 := gEval_le (B := 1000) (Nat.le_refl _) hw1 vv1 (hok.mono (by omega)) (Nat.le_refl _) ev
    have nm1 := gEval_nm (gw := true) hw1 vv1 (fun q hq => (hok.1.2.2 q hq).1) (Nat.le_refl _) ev
    obtain ⟨G2, -, -, -, ha⟩ := gEval_nw (B := 1000) (g := g) (Nat.le_refl _) hw1 vv1 (hok.mono (by omega)) (gNw.refl _) (Nat.le_refl _) ev
    have ha := ha a (List.mem_singleton.mpr rfl)
    have ff : et_fm h h2 := fun k hk => (fr2 k (by omega)).trans (fr k (by omega))
    have k65 := (fr2 65 (by omega)).trans j65
    have k73 := (fr2 73 (by omega)).trans j73
    have k75 := (fr2 75 (by omega)).trans j75
    have full : ∀ (y : gx) (h3 : Nat → et_MC) (rs3 b : Int32) (sa3 : Nat → Int32), gLe g y.1 → 40 < gN y.1 → gN y.1 < 2 ^ 31 → h3 64 = et_Mo 0 (nI sz) a1 wp en1 al se1 ru (nI (gN y.1)) (nI (gC y.1)) (bI u) rs3 dc ds → et_mg y h3 → h3 74 = .inl (0, 62, .inl sa3) → (∀ k, (k < 64 ∨ (64 < k ∧ k < 68) ∨ (72 < k ∧ k ≠ 74)) → h3 k = h2 k) → (∀ hx : Nat → et_MC, et_ME 2 f sz wp ru g hx → et_fm h hx → ((fun r h' n' => n' = n ∧ et_fm h h' ∧ (((fwN f true false sz 0 1 0).1 ≠ 0 ∧ r = .inl (some (.int 0)) ∧ et_ME 1 f sz (eI (fwN f true false sz 0 1 0).1) ru g h') ∨ ((fwN f true false sz 0 1 0).1 = 0 ∧ ∃ e, (fwN f true false sz 0 1 0).2 = e + 1 ∧ e < sz ∧ ∃ a x1, gEval true 1000 (fun _ => 0) (sg f e e) (gI g) = some ([a], x1) ∧ ((40 < gN x1.1 ∧ r = .inl (some (.int 0)) ∧ et_ME 2 f sz wp ru g h') ∨ (gN x1.1 ≤ 40 ∧ ∃ b x2, gEval true 1000 (fun _ => 0) (sg f sz (sz - (e + 1))) x1 = some ([b], x2) ∧ ((40 < gN x2.1 ∧ r = .inl (some (.int 0)) ∧ et_ME 2 f sz wp ru g h') ∨ (gN x2.1 ≤ 40 ∧ ∃ g', gQuot x2.1 (fun u v => u = a ∧ v = b) g' ∧ r = .inl (some (.int (nI (gC g')))) ∧ et_ME 0 f 0 wp ru g' h'))))))) : et_R → (Nat → et_MC) → Nat → Prop) (.inl (some (.int 0))) hx n) → et_M sc Y_M_unite (d + 4) 0 0 (fun r h' n' => n' = n ∧ et_fm h h' ∧ (((fwN f true false sz 0 1 0).1 ≠ 0 ∧ r = .inl (some (.int 0)) ∧ et_ME 1 f sz (eI (fwN f true false sz 0 1 0).1) ru g h') ∨ ((fwN f true false sz 0 1 0).1 = 0 ∧ ∃ e, (fwN f true false sz 0 1 0).2 = e + 1 ∧ e < sz ∧ ∃ a x1, gEval true 1000 (fun _ => 0) (sg f e e) (gI g) = some ([a], x1) ∧ ((40 < gN x1.1 ∧ r = .inl (some (.int 0)) ∧ et_ME 2 f sz wp ru g h') ∨ (gN x1.1 ≤ 40 ∧ ∃ b x2, gEval true 1000 (fun _ => 0) (sg f sz (sz - (e + 1))) x1 = some ([b], x2) ∧ ((40 < gN x2.1 ∧ r = .inl (some (.int 0)) ∧ et_ME 2 f sz wp ru g h') ∨ (gN x2.1 ≤ 40 ∧ ∃ g', gQuot x2.1 (fun u v => u = a ∧ v = b) g' ∧ r = .inl (some (.int (nI (gC g')))) ∧ et_ME 0 f 0 wp ru g' h'))))))) 69 [some (.ref 64), some (.int (nI (e + 1))), some (.int (nI (gN g))), some (.int (nI (gC g))), some (.int (nI a)), some (.int b)] [] h3 n 0 0 := by
      intro y h3 rs3 b sa3 ley q2 y31 l64 g3 l74 fr3 post
      refine et_aload_n (i := 0) d_M_unite_69 rfl rfl ?_
      refine et_getf (ci := 7) 11 d_M_unite_70 l64 rfl in_M (by decide) fl_M_119 rfl ?_
      refine et_bipush (v := 40) d_M_unite_73 (by decide) ?_
      refine et_icmp_le (tgt := 90) d_M_unite_75 (by decide) (fun q => absurd q (fun z => absurd ((nI_leI (b := 40) (by omega) (by omega)).mp z) (by omega))) (fun _ => ?_)
      refine et_aload_n (i := 0) d_M_unite_78 rfl rfl ?_
      refine et_iload_n (i := 2) d_M_unite_79 rfl rfl ?_
      refine et_iload_n (i := 3) d_M_unite_80 rfl rfl ?_
      refine et_invV mV_M_cut (As := [_, _]) rfl d_M_unite_81 lk_M_163 len_M_cut l64 rfl (Nat.le_of_ble_eq_true rfl) (c_M_cut (d := d + 3) (x := y) g (by have := hok.1.2.1; omega) ley l64 g3) (Nat.le_refl _) (Nat.le_of_ble_eq_true rfl) (Nat.le_of_ble_eq_true rfl) (fun v h4 n' hp => ?_) (fun x h' n' hp => by cases hp.1)
      obtain ⟨hv, hn2, fr4, m64, g4⟩ := hp
      cases hv
      replace hn2 := hn2.symm
      subst hn2
      refine et_aload_n (i := 0) d_M_unite_84 rfl rfl ?_
      refine et_iconst (v := 2) d_M_unite_85 (by decide) ?_
      refine et_invV mV_M_refuse (As := [_]) rfl d_M_unite_86 lk_M_116 len_M_refuse m64 rfl (Nat.le_of_ble_eq_true rfl) (c_M_refuse (d := d + 3) 2 m64) (Nat.le_refl _) (Nat.le_of_ble_eq_true rfl) (Nat.le_of_ble_eq_true rfl) (fun v h' n' hp => ?_) (fun x h' n' hp => by cases hp.1)
      obtain ⟨hv, hn2, hh2⟩ := hp
      cases hv
      subst hh2
      replace hn2 := hn2.symm
      subst hn2
      exact et_iret d_M_unite_89 rfl (Nat.le_refl _) (Nat.le_refl _) (post _ ⟨⟨_, _, _, _, _, _, _, _, va_eq⟩, (va_ne (by decide)).trans ((fr4 65 (by decide) (by decide)).trans ((fr3 65 (by omega)).trans k65)), g4.same (fun k a b => va_ne (by omega)), ⟨_, (va_ne (by decide)).trans ((fr4 73 (by decide) (by decide)).trans ((fr3 73 (by omega)).trans k73))⟩, ⟨_, (va_ne (by decide)).trans ((fr4 74 (by decide) (by decide)).trans l74)⟩, _, (va_ne (by decide)).trans ((fr4 75 (by decide) (by decide)).trans ((fr3 75 (by omega)).trans k75))⟩ (fun k hk => (va_ne (by omega)).trans ((fr4 k (by omega) (by omega)).trans ((fr3 k (by omega)).trans (ff k hk)))))
    refine et_istore (lv' := [_, _, _, _, _, _]) d_M_unite_42 (by decide) rfl rfl ?_
    refine et_aload_n (i := 0) d_M_unite_44 rfl rfl ?_
    refine et_getf (ci := 7) 11 d_M_unite_45 k64 rfl in_M (by decide) fl_M_119 rfl ?_
    refine et_bipush (v := 40) d_M_unite_48 (by decide) ?_
    refine et_icmp_le (tgt := 57) d_M_unite_50 (by decide) (fun q => ?_) (fun q => ?_)
    · have q2 : gN x1.1 ≤ 40 := (nI_leI (b := 40) (by omega) (by omega)).mp q
      have G3 := G2.cut q2
      have vv2 : ∀ i, e + 1 ≤ i → i < sz → et_isv (f i) → (fun _ => 0 : Nat → Nat) (f i - 97).toNatClampNeg < gC x1.1 := fun i a b c => absurd c (nv2 i a b)
      refine et_aload_n (i := 0) d_M_unite_57 rfl rfl ?_
      refine et_iload_n (i := 1) d_M_unite_58 rfl rfl ?_
      refine et_aload_n (i := 0) d_M_unite_59 rfl rfl ?_
      refine et_getf (ci := 7) 2 d_M_unite_60 k64 rfl in_M (by decide) fl_M_79 rfl ?_
      refine et_iconst (v := 1) d_M_unite_63 (by decide) ?_
      refine et_invV mV_M_workText (As := [_, _, _]) rfl d_M_unite_64 lk_M_160 len_M_workText k64 rfl (Nat.le_of_ble_eq_true rfl) (c_M_workText (d := d) (vs := fun _ => 0) true (e + 1) sz G3 k64 k74 k75 g2 hw2 (nv_of nv2) k65 hsz) (Nat.le_refl _) (Nat.le_of_ble_eq_true rfl) (Nat.le_of_ble_eq_true rfl) (fun v h3 n' hp => ?_) (fun y h' n' hp => by obtain ⟨-, -, rs', sa', -, ⟨c, x', -, e, -⟩ | ⟨-, -, e, -⟩⟩ := hp <;> cases e)
      obtain ⟨hn2, fr3, rs3, sa3, l74, hres⟩ := hp
      replace hn2 := hn2.symm
      subst hn2
      rcases hres with ⟨b, x2, ev2, hv, l64, g3⟩ | ⟨-, e, -⟩
      rotate_left
      · cases e
      cases hv
      have n3 := gEval_bd ev2
      rw [sg_length] at n3
      have le2 : gLe x1.1 x2.1 := gEval_le (B := 1000) (Nat.le_refl _) hw2 vv2 G2 (Nat.le_refl _) ev2
      have nm2 := gEval_nm (gw := true) hw2 vv2 (fun q hq => (G2.1.2.2 q hq).1) (Nat.le_refl _) ev2
      obtain ⟨G4, -, -, -, hb⟩ := gEval_nw (B := 1000) (g := x1.1) (Nat.le_refl _) hw2 vv2 G2 (gNw.refl _) (Nat.le_refl _) ev2
      have hb := hb b (List.mem_singleton.mpr rfl)
      have ha2 := Nat.lt_of_lt_of_le ha le2.2.1
      have id2 : ∀ c, c < gC x2.1 → x2.2 c = c := fun c hc => by
        by_cases z : c < gC x1.1
        · rw [(nm2 c).1 z]; exact gN_id nm1 c z
        · exact (nm2 c).2 (by omega) hc
      refine et_istore (lv' := [_, _, _, _, _, _]) d_M_unite_67 (by decide) rfl rfl ?_
      by_cases q3 : 40 < gN x2.1
      · exact full x2 h3 _ _ _ (le1.trans le2) q3 (by omega) l64 g3 l74 fr3 (fun hx m f => ⟨rfl, f, Or.inr ⟨q0, e, hq2, hes, a, x1, ev, Or.inr ⟨q2, b, x2, ev2, Or.inl ⟨q3, rfl, m⟩⟩⟩⟩)
      · have G5 := G4.cut (Nat.le_of_not_lt q3)
        have o1 := G5.1.1
        have o2 := G5.1.2.1
        have nok2 : nOk x2 := fun c hc => by rw [id2 c hc]; exact hc
        have nid2 : nId x2 := fun c hc => by rw [id2 c hc, id2 c hc]
        obtain ⟨nok3, nid3⟩ := gJoin_ok nok2 nid2 ha2 hb
        refine et_aload_n (i := 0) d_M_unite_69 rfl rfl ?_
        refine et_getf (ci := 7) 11 d_M_unite_70 l64 rfl in_M (by decide) fl_M_119 rfl ?_
        refine et_bipush (v := 40) d_M_unite_73 (by decide) ?_
        refine et_icmp_le (tgt := 90) d_M_unite_75 (by decide) (fun _ => ?_) (fun q => absurd ((nI_leI (b := 40) (by omega) (by omega)).mpr (Nat.le_of_not_lt q3)) q)
        refine et_aload_n (i := 0) d_M_unite_90 rfl rfl ?_
        refine et_iload d_M_unite_91 rfl ?_
        refine et_iload d_M_unite_93 rfl ?_
        refine et_invV mV_M_joinClasses (As := [_, _]) rfl d_M_unite_95 lk_M_146 len_M_joinClasses l64 rfl (Nat.le_of_ble_eq_true rfl) (c_M_joinClasses (d := d + 3) u a b (by omega) nok2 ha2 hb l64 g3) (Nat.le_refl _) (Nat.le_of_ble_eq_true rfl) (Nat.le_of_ble_eq_true rfl) (fun v h4 n' hp => ?_) (fun x h' n' hp => by cases hp.1)
        obtain ⟨hv, hn2, fr4, m64, g4⟩ := hp
        cases hv
        replace hn2 := hn2.symm
        subst hn2
        refine et_aload_n (i := 0) d_M_unite_98 rfl rfl ?_
        refine et_invV mV_M_close (As := []) rfl d_M_unite_99 lk_M_166 len_M_close m64 rfl (Nat.le_of_ble_eq_true rfl) (c_M_close (d := d + 2) (x0 := gJoin x2 a b) (P := fun u v => u = a ∧ v = b) (u || decide (x2.2 a ≠ x2.2 b)) G5.1.bd G5.2.2.1 nok3 nid3 (gJoin_snd (gCong.eqv _ _) (fun c c' hc hc' z => by rw [id2 c hc, id2 c' hc'] at z; subst z; exact (gCong.eqv _ _).1 _) (gCong.sub _ _ ⟨rfl, rfl⟩) ha2 hb) (fun c c' z => by obtain ⟨rfl, rfl⟩ := z; exact ⟨ha2, hb, gJoin_eq⟩) m64 g4 ((fr4 73 (by decide) (by decide)).trans ((fr3 73 (by omega)).trans k73))) (Nat.le_refl _) (Nat.le_of_ble_eq_true rfl) (Nat.le_of_ble_eq_true rfl) (fun v h5 n' hp => ?_) (fun x h' n' hp => by cases hp.1)
        obtain ⟨hv, hn2, fr5, g', un', Q, -, -, p64, g5, b9, p73⟩ := hp
        cases hv
        replace hn2 := hn2.symm
        subst hn2
        refine et_aload_n (i := 0) d_M_unite_102 rfl rfl ?_
        refine et_iconst (v := 0) d_M_unite_103 (by decide) ?_
        refine et_putf (ci := 7) 2 d_M_unite_104 p64 rfl in_M ty_M nm_M (by decide) fl_M_79 rfl rfl (fun _ => rfl) (fun _ => rfl) (Nat.le_of_ble_eq_true rfl) (fs' := [_, _, _, _, _, _, _, _, _, _, _, _, _, _, _, _, _, _, _, _, _, _, _, _, _, _, _, _, _, _, _, _, _]) rfl ?_
        refine et_aload_n (i := 0) d_M_unite_107 rfl rfl ?_
        refine et_getf (ci := 7) 12 d_M_unite_108 rfl rfl in_M (by decide) fl_M_126 rfl ?_
        exact et_iret d_M_unite_111 rfl (Nat.le_refl _) (Nat.le_refl _) ⟨rfl, fun k hk => (va_ne (by omega)).trans ((fr5 k (by omega)).trans ((fr4 k (by omega) (by omega)).trans ((fr3 k (by omega)).trans (ff k hk)))), Or.inr ⟨q0, e, hq2, hes, a, x1, ev, Or.inr ⟨q2, b, x2, ev2, Or.inr ⟨Nat.le_of_not_lt q3, g', Q, rfl, ⟨_, _, _, _, _, _, _, _, va_eq⟩, (va_ne (by decide)).trans ((fr5 65 (by omega)).trans ((fr4 65 (by decide) (by decide)).trans ((fr3 65 (by omega)).trans k65))), g5.same (fun k a b => va_ne (by omega)), ⟨_, (va_ne (by decide)).trans p73⟩, ⟨_, (va_ne (by decide)).trans ((fr5 74 (by omega)).trans ((fr4 74 (by decide) (by decide)).trans l74))⟩, _, (va_ne (by decide)).trans ((fr5 75 (by omega)).trans ((fr4 75 (by decide) (by decide)).trans ((fr3 75 (by omega)).trans k75)))⟩⟩⟩⟩
    · have q2 : 40 < gN x1.1 := Nat.lt_of_not_le fun z => q ((nI_leI (b := 40) (by omega) (by omega)).mpr z)
      refine et_iconst (v := (-1)) d_M_unite_53 (by decide) ?_
      refine et_goto (tgt := 67) d_M_unite_54 (by decide) ?_
      refine et_istore (lv' := [_, _, _, _, _, _]) d_M_unite_67 (by decide) rfl rfl ?_
      exact full x1 h2 _ _ _ le1 q2 (by omega) k64 g2 k74 (fun _ _ => rfl) (fun hx m f => ⟨rfl, f, Or.inr ⟨q0, e, hq2, hes, a, x1, ev, Or.inl ⟨q2, rfl, m⟩⟩⟩)
  · cases hv
    refine et_istore_n (i := 1) (lv' := [_, _, _, _, _, _]) d_M_unite_12 rfl (by decide) rfl rfl ?_
    refine et_iload_n (i := 1) d_M_unite_13 rfl rfl ?_
    refine et_if_ge (tgt := 23) d_M_unite_14 (by decide) (fun q => absurd q (by decide)) (fun _ => ?_)
    refine et_aload_n (i := 0) d_M_unite_17 rfl rfl ?_
    refine et_iconst (v := 1) d_M_unite_18 (by decide) ?_
    refine et_invV mV_M_refuse (As := [_]) rfl d_M_unite_19 lk_M_116 len_M_refuse j64 rfl (Nat.le_of_ble_eq_true rfl) (c_M_refuse (d := d + 3) 1 j64) (Nat.le_refl _) (Nat.le_of_ble_eq_true rfl) (Nat.le_of_ble_eq_true rfl) (fun v h' n' hp => ?_) (fun x h' n' hp => by cases hp.1)
    obtain ⟨hv, hn2, hh2⟩ := hp
    cases hv
    subst hh2
    replace hn2 := hn2.symm
    subst hn2
    exact et_iret d_M_unite_22 rfl (Nat.le_refl _) (Nat.le_refl _) ⟨rfl, fun k hk => (va_ne (by omega)).trans (fr k (by omega)), Or.inl ⟨q0, rfl, ⟨⟨_, _, _, _, _, _, _, _, va_eq⟩, (va_ne (by decide)).trans j65, jg.same (fun k a b => va_ne (by omega)), ⟨_, (va_ne (by decide)).trans j73⟩, ⟨_, (va_ne (by decide)).trans j74⟩, _, (va_ne (by decide)).trans j75⟩⟩⟩
