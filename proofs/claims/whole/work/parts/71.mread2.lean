theorem mk_shr : ∀ a b c : Bool, ((mkB a b c >>> (((97 : Int32) - 97) &&& 31)) &&& 1 = 1 ↔ a = true) ∧ ((mkB a b c >>> (((98 : Int32) - 97) &&& 31)) &&& 1 = 1 ↔ b = true) ∧ ((mkB a b c >>> (((99 : Int32) - 97) &&& 31)) &&& 1 = 1 ↔ c = true) := by decide
theorem hV_0 : ∀ c, et_isv c → (((0 : Int32) >>> ((c - 97) &&& 31)) &&& 1 = 1 ↔ (fun _ => false : Int32 → Bool) c = true) := by
  intro c h
  rcases isv_cases h with rfl | rfl | rfl <;> decide
theorem hV_7 : ∀ c, et_isv c → (((7 : Int32) >>> ((c - 97) &&& 31)) &&& 1 = 1 ↔ (fun _ => true : Int32 → Bool) c = true) := by
  intro c h
  rcases isv_cases h with rfl | rfl | rfl <;> decide
theorem hV_m {f : Nat → Int32} {e : Nat} : ∀ c, et_isv c → ((metB f e >>> ((c - 97) &&& 31)) &&& 1 = 1 ↔ (fun c => inF f c e) c = true) := by
  intro c h
  unfold metB
  obtain ⟨h1, h2, h3⟩ := mk_shr (inF f 97 e) (inF f 98 e) (inF f 99 e)
  rcases isv_cases h with rfl | rfl | rfl
  · exact h1
  · exact h2
  · exact h3
theorem hpt_0 {f : Nat → Int32} {mid sz : Nat} (hsz : sz ≤ 60) : ∀ i, mid ≤ i → i < sz → ptI f false mid i = if mid + 60 ≤ i then -1 else if et_isv (f i) ∧ (fun _ => false : Int32 → Bool) (f i) = true then 0 else et_pt (f i) := by
  intro i h1 h2
  rw [if_neg (by omega), if_neg (by rintro ⟨-, q⟩; cases q), ptI, if_neg (by decide)]
theorem hpt_7 {f : Nat → Int32} {sz : Nat} : ∀ i, 0 ≤ i → i < sz → ptI f true 0 i = if 0 + 7 ≤ i then -1 else if et_isv (f i) ∧ (fun _ => true : Int32 → Bool) (f i) = true then 0 else et_pt (f i) := by
  intro i h1 h2
  rw [ptI, if_pos rfl, prI]
  by_cases e : 7 ≤ i
  · rw [if_pos (by omega), if_pos (by omega)]
  · rw [if_neg (by omega), if_neg (by rintro ⟨q, -⟩; exact q rfl), if_neg (by omega), et_pp]
    by_cases v : et_isv (f i)
    · rw [if_pos v, if_pos ⟨v, rfl⟩]
    · rw [if_neg v, if_neg (fun q => v q.1)]
theorem hpt_m {f : Nat → Int32} {sz e : Nat} : ∀ i, e + 1 ≤ i → i < sz → ptI f true (e + 1) i = if e + 1 + 7 ≤ i then -1 else if et_isv (f i) ∧ (fun c => inF f c e) (f i) = true then 0 else et_pt (f i) := by
  intro i h1 h2
  rw [ptI, if_pos rfl, prI, Nat.add_sub_cancel]
  by_cases z : e + 1 + 7 ≤ i
  · rw [if_pos (by omega), if_pos (by omega)]
  · rw [if_neg (by omega), if_neg z, et_pp]
    by_cases v : et_isv (f i)
    · cases hi : inF f (f i) e with
      | true => rw [if_neg (by rintro ⟨-, -, q⟩; cases q), if_pos v, if_pos ⟨v, hi⟩]
      | false => rw [if_pos ⟨by omega, v, rfl⟩, if_neg (fun q => by have := q.2; rw [show (fun c => inF f c e) (f i) = inF f (f i) e from rfl, hi] at this; cases this), et_isv_pt v]
    · rw [if_neg (fun q => v q.2.1), if_neg v, if_neg (fun q => v q.1)]
set_option maxHeartbeats 4000000 in
set_option maxRecDepth 100000 in
theorem c_M_readTerm {sc : et_X} {h : Nat → et_MC} {d n : Nat} {th a_ wr en al se ru nd cs un rs : Int32} {dc ds : Int64} {f : Nat → Int32} {sz : Nat} (hsz : sz ≤ 60) (h64 : h 64 = et_Mo th (nI sz) a_ wr en al se ru nd cs un rs dc ds) (h65 : h 65 = .inl (0, 60, .inl f)) : et_Cn sc Y_M_readTerm (d + 3) [.ref 64] h n 0 0 (fun r h' n' => n' = n ∧ (∀ k, k ≠ 64 → h' k = h k) ∧ ∃ a' en' se', (((fwN f false false sz 0 1 0).1 = 0 ∧ r = .inl (some (.int 1)) ∧ h' 64 = et_Mo th (nI sz) a' wr en' al se' ru nd cs un rs dc ds) ∨ ((fwN f false false sz 0 1 0).1 ≠ 0 ∧ r = .inl (some (.int 0)) ∧ h' 64 = et_Mo th (nI sz) a' (eI (fwN f false false sz 0 1 0).1) en' al se' ru nd cs un rs dc ds))) := by
  refine et_Cn.of 0 rfl rfl (by decide) mV_M_readTerm.1 ?_
  refine et_aload_n (i := 0) d_M_readTerm_0 rfl rfl ?_
  refine et_iconst (v := 0) d_M_readTerm_1 (by decide) ?_
  refine et_putf (ci := 7) 3 d_M_readTerm_2 h64 rfl in_M ty_M nm_M (by decide) fl_M_88 rfl rfl (fun _ => rfl) (fun _ => rfl) (Nat.le_of_ble_eq_true rfl) (fs' := [_, _, _, _, _, _, _, _, _, _, _, _, _, _, _, _, _, _, _, _, _, _, _, _, _, _, _, _, _, _, _, _, _]) rfl ?_
  refine et_aload_n (i := 0) d_M_readTerm_5 rfl rfl ?_
  refine et_bipush (v := 60) d_M_readTerm_6 (by decide) ?_
  refine et_iconst (v := 0) d_M_readTerm_8 (by decide) ?_
  refine et_invV mV_M_readSide (As := [_, _]) rfl d_M_readTerm_9 lk_M_105 len_M_readSide rfl rfl (Nat.le_of_ble_eq_true rfl) (c_M_readSide (d := d) (sz := sz) (f := f) false false 0 60 0 (fun _ => false) hsz (Nat.zero_le _) (Nat.le_refl _) rfl h65 hV_0 (hpt_0 hsz)) (Nat.le_refl _) (Nat.le_of_ble_eq_true rfl) (Nat.le_of_ble_eq_true rfl) (fun v h' n' hp => ?_) (fun x h' n' hp => by obtain ⟨-, -, en', ⟨w, se', -, e, -⟩ | ⟨w, se', -, -, -, e, -⟩⟩ := hp <;> cases e)
  obtain ⟨hn2, fr, en', hres⟩ := hp
  replace hn2 := hn2.symm
  subst hn2
  rcases hres with ⟨w, se', e1, hv, g64⟩ | ⟨e, se', e0, e9, e1, hv, g64, -⟩
  · cases hv
    rw [Nat.sub_zero] at e1
    refine et_if_eq (tgt := 37) d_M_readTerm_12 (by decide) (fun _ => ?_) (fun q => absurd rfl q)
    refine et_iconst (v := 0) d_M_readTerm_37 (by decide) ?_
    exact et_zret d_M_readTerm_38 rfl rfl (Nat.le_refl _) (Nat.le_refl _) ⟨rfl, fun k e => by rw [fr k e]; simp [va_up, e], nI w, en', se', Or.inr ⟨by rw [e1]; exact Nat.succ_ne_zero _, rfl, by rw [g64, e1, eI_s]⟩⟩
  · cases hv
    rw [Nat.sub_zero] at e1
    refine et_if_eq (tgt := 37) d_M_readTerm_12 (by decide) (fun q => absurd q (by decide)) (fun _ => ?_)
    refine et_aload_n (i := 0) d_M_readTerm_15 rfl rfl ?_
    refine et_getf (ci := 7) 3 d_M_readTerm_16 g64 rfl in_M (by decide) fl_M_88 rfl ?_
    refine et_aload_n (i := 0) d_M_readTerm_19 rfl rfl ?_
    refine et_getf (ci := 7) 2 d_M_readTerm_20 g64 rfl in_M (by decide) fl_M_79 rfl ?_
    by_cases z : e = sz
    · subst z
      rw [Nat.sub_self, fwN, if_pos ⟨rfl, Or.inl rfl⟩] at e1
      refine et_icmp_eq (tgt := 33) d_M_readTerm_23 (by decide) (fun _ => ?_) (fun q => absurd rfl q)
      refine et_iconst (v := 1) d_M_readTerm_33 (by decide) ?_
      refine et_goto (tgt := 38) d_M_readTerm_34 (by decide) ?_
      exact et_zret d_M_readTerm_38 rfl rfl (Nat.le_refl _) (Nat.le_refl _) ⟨rfl, fun k e => by rw [fr k e]; simp [va_up, e], _, en', se', Or.inl ⟨by rw [e1], rfl, g64⟩⟩
    · rw [show sz - e = (sz - e - 1) + 1 by omega, fwN, if_pos rfl, if_pos (Or.inl rfl)] at e1
      refine et_icmp_eq (tgt := 33) d_M_readTerm_23 (by decide) (fun q => absurd q (fun q => z ((nI_eq (by omega) (by omega)).mp q))) (fun _ => ?_)
      refine et_aload_n (i := 0) d_M_readTerm_26 rfl rfl ?_
      refine et_invV mV_M_fail (As := []) rfl d_M_readTerm_27 lk_M_94 len_M_fail g64 rfl (Nat.le_of_ble_eq_true rfl) (c_M_fail (d := d + 2) g64) (Nat.le_refl _) (Nat.le_of_ble_eq_true rfl) (Nat.le_of_ble_eq_true rfl) (fun v h' n' hp => ?_) (fun x h' n' hp => by cases hp.1)
      obtain ⟨hv, hn2, hh2⟩ := hp
      cases hv
      subst hh2
      replace hn2 := hn2.symm
      subst hn2
      refine et_if_eq (tgt := 37) d_M_readTerm_30 (by decide) (fun _ => ?_) (fun q => absurd rfl q)
      refine et_iconst (v := 0) d_M_readTerm_37 (by decide) ?_
      exact et_zret d_M_readTerm_38 rfl rfl (Nat.le_refl _) (Nat.le_refl _) ⟨rfl, fun k e => by rw [va_ne e, fr k e]; simp [va_up, e], _, en', se', Or.inr ⟨by rw [e1]; exact Nat.succ_ne_zero _, rfl, by rw [e1, eI_s]; rfl⟩⟩
set_option maxHeartbeats 4000000 in
set_option maxRecDepth 100000 in
theorem c_M_readBoth {sc : et_X} {h : Nat → et_MC} {d n : Nat} {th a_ wr en al se ru nd cs un rs : Int32} {dc ds : Int64} {f : Nat → Int32} {sz : Nat} (pat : Bool) (hsz : sz ≤ 60) (h64 : h 64 = et_Mo th (nI sz) a_ wr en al se ru nd cs un rs dc ds) (h65 : h 65 = .inl (0, 60, .inl f)) : et_Cn sc Y_M_readBoth (d + 3) [.ref 64, .int (nI (if pat = true then 7 else 60)), .int (bI pat)] h n 0 0 (fun r h' n' => n' = n ∧ (∀ k, k ≠ 64 → h' k = h k) ∧ ∃ a' en' se', (((fwN f true pat sz 0 1 0).1 = 0 ∧ r = .inl (some (.int (nI (fwN f true pat sz 0 1 0).2))) ∧ h' 64 = et_Mo th (nI sz) a' wr en' al se' ru nd cs un rs dc ds) ∨ ((fwN f true pat sz 0 1 0).1 ≠ 0 ∧ r = .inl (some (.int (-1))) ∧ h' 64 = et_Mo th (nI sz) a' (eI (fwN f true pat sz 0 1 0).1) en' al se' ru nd cs un rs dc ds))) := by
  refine et_Cn.of 1 rfl rfl (by decide) mV_M_readBoth.1 ?_
  have hm60 : (if pat = true then 7 else 60) ≤ 60 := by split <;> omega
  have bad : ∀ (w : Nat) (hh : Nat → et_MC) (a' en' se' : Int32) (mid : Nat), fwN f true pat sz 0 1 0 = (w + 1, mid) → (∀ k, k ≠ 64 → hh k = h k) → hh 64 = et_Mo th (nI sz) a' (nI w) en' al se' ru nd cs un rs dc ds → ((fun r h' n' => n' = n ∧ (∀ k, k ≠ 64 → h' k = h k) ∧ ∃ a' en' se', (((fwN f true pat sz 0 1 0).1 = 0 ∧ r = .inl (some (.int (nI (fwN f true pat sz 0 1 0).2))) ∧ h' 64 = et_Mo th (nI sz) a' wr en' al se' ru nd cs un rs dc ds) ∨ ((fwN f true pat sz 0 1 0).1 ≠ 0 ∧ r = .inl (some (.int (-1))) ∧ h' 64 = et_Mo th (nI sz) a' (eI (fwN f true pat sz 0 1 0).1) en' al se' ru nd cs un rs dc ds))) : et_R → (Nat → et_MC) → Nat → Prop) (.inl (some (.int (-1)))) hh n := by
    intro w hh a' en' se' mid e1 fr g
    exact ⟨rfl, fr, a', en', se', Or.inr ⟨by rw [e1]; exact Nat.succ_ne_zero _, rfl, by rw [g, e1, eI_s]⟩⟩
  refine et_aload_n (i := 0) d_M_readBoth_0 rfl rfl ?_
  refine et_iconst (v := 0) d_M_readBoth_1 (by decide) ?_
  refine et_putf (ci := 7) 3 d_M_readBoth_2 h64 rfl in_M ty_M nm_M (by decide) fl_M_88 rfl rfl (fun _ => rfl) (fun _ => rfl) (Nat.le_of_ble_eq_true rfl) (fs' := [_, _, _, _, _, _, _, _, _, _, _, _, _, _, _, _, _, _, _, _, _, _, _, _, _, _, _, _, _, _, _, _, _]) rfl ?_
  refine et_aload_n (i := 0) d_M_readBoth_5 rfl rfl ?_
  refine et_iconst (v := 0) d_M_readBoth_6 (by decide) ?_
  refine et_putf (ci := 7) 7 d_M_readBoth_7 rfl rfl in_M ty_M nm_M (by decide) fl_M_102 rfl rfl (fun _ => rfl) (fun _ => rfl) (Nat.le_of_ble_eq_true rfl) (fs' := [_, _, _, _, _, _, _, _, _, _, _, _, _, _, _, _, _, _, _, _, _, _, _, _, _, _, _, _, _, _, _, _, _]) rfl ?_
  have two : ∀ (hh : Nat → et_MC) (b : Int32) (en' : Int32), (∀ k, k ≠ 64 → hh k = h k) → ((∃ w se', fwN f true pat (sz - 0) 0 1 0 = (w + 1, 0) ∧ b = 0 ∧ hh 64 = et_Mo th (nI sz) (nI w) (nI w) en' al se' ru nd cs un rs dc ds) ∨ (∃ e se', 0 < e ∧ e ≤ sz ∧ fwN f true pat (sz - 0) 0 1 0 = fwN f true pat (sz - e) e 0 0 ∧ b = 1 ∧ hh 64 = et_Mo th (nI sz) (nI e) wr en' al se' ru nd cs un rs dc ds ∧ (pat = true → se' = metB f e))) → et_M sc Y_M_readBoth (d + 3) 0 0 (fun r h' n' => n' = n ∧ (∀ k, k ≠ 64 → h' k = h k) ∧ ∃ a' en' se', (((fwN f true pat sz 0 1 0).1 = 0 ∧ r = .inl (some (.int (nI (fwN f true pat sz 0 1 0).2))) ∧ h' 64 = et_Mo th (nI sz) a' wr en' al se' ru nd cs un rs dc ds) ∨ ((fwN f true pat sz 0 1 0).1 ≠ 0 ∧ r = .inl (some (.int (-1))) ∧ h' 64 = et_Mo th (nI sz) a' (eI (fwN f true pat sz 0 1 0).1) en' al se' ru nd cs un rs dc ds))) 25 [some (.ref 64), some (.int (nI (if pat = true then 7 else 60))), some (.int (bI pat)), none] [.int b] hh n 0 0 := by
    intro hh b en' fr hres
    have g65 : hh 65 = .inl (0, 60, .inl f) := (fr 65 (by decide)).trans h65
    rcases hres with ⟨w, se', e1, hb, g64⟩ | ⟨e, se', e0, e9, e1, hb, g64, hse⟩
    · subst hb
      rw [Nat.sub_zero] at e1
      refine et_if_ne (tgt := 30) d_M_readBoth_25 (by decide) (fun q => absurd rfl q) (fun _ => ?_)
      refine et_iconst (v := (-1)) d_M_readBoth_28 (by decide) ?_
      exact et_iret d_M_readBoth_29 rfl (Nat.le_refl _) (Nat.le_refl _) (bad w _ _ _ _ 0 e1 fr g64)
    · subst hb
      rw [Nat.sub_zero] at e1
      refine et_if_ne (tgt := 30) d_M_readBoth_25 (by decide) (fun _ => ?_) (fun q => absurd q (by decide))
      refine et_aload_n (i := 0) d_M_readBoth_30 rfl rfl ?_
      refine et_getf (ci := 7) 3 d_M_readBoth_31 g64 rfl in_M (by decide) fl_M_88 rfl ?_
      refine et_aload_n (i := 0) d_M_readBoth_34 rfl rfl ?_
      refine et_getf (ci := 7) 2 d_M_readBoth_35 g64 rfl in_M (by decide) fl_M_79 rfl ?_
      have fin : fwN f true pat sz 0 1 0 = (e + 1, 0) → et_M sc Y_M_readBoth (d + 3) 0 0 (fun r h' n' => n' = n ∧ (∀ k, k ≠ 64 → h' k = h k) ∧ ∃ a' en' se', (((fwN f true pat sz 0 1 0).1 = 0 ∧ r = .inl (some (.int (nI (fwN f true pat sz 0 1 0).2))) ∧ h' 64 = et_Mo th (nI sz) a' wr en' al se' ru nd cs un rs dc ds) ∨ ((fwN f true pat sz 0 1 0).1 ≠ 0 ∧ r = .inl (some (.int (-1))) ∧ h' 64 = et_Mo th (nI sz) a' (eI (fwN f true pat sz 0 1 0).1) en' al se' ru nd cs un rs dc ds))) 55 [some (.ref 64), some (.int (nI (if pat = true then 7 else 60))), some (.int (bI pat)), none] [] hh n 0 0 := by
        intro e2
        refine et_aload_n (i := 0) d_M_readBoth_55 rfl rfl ?_
        refine et_aload_n (i := 0) d_M_readBoth_56 rfl rfl ?_
        refine et_getf (ci := 7) 3 d_M_readBoth_57 g64 rfl in_M (by decide) fl_M_88 rfl ?_
        refine et_putf (ci := 7) 4 d_M_readBoth_60 g64 rfl in_M ty_M nm_M (by decide) fl_M_13 rfl rfl (fun _ => rfl) (fun _ => rfl) (Nat.le_of_ble_eq_true rfl) (fs' := [_, _, _, _, _, _, _, _, _, _, _, _, _, _, _, _, _, _, _, _, _, _, _, _, _, _, _, _, _, _, _, _, _]) rfl ?_
        refine et_iconst (v := (-1)) d_M_readBoth_63 (by decide) ?_
        exact et_iret d_M_readBoth_64 rfl (Nat.le_refl _) (Nat.le_refl _) (bad e _ _ _ _ 0 e2 (fun k z => by rw [va_ne z]; exact fr k z) rfl)
      by_cases z : e = sz
      · subst z
        rw [Nat.sub_self, fwN, if_neg (by rintro ⟨-, q | q⟩ <;> first | exact q rfl | cases q)] at e1
        refine et_icmp_eq (tgt := 55) d_M_readBoth_38 (by decide) (fun _ => ?_) (fun q => absurd rfl q)
        exact fin e1
      · rw [show sz - e = (sz - e - 1) + 1 by omega, fwN, if_pos rfl] at e1
        refine et_icmp_eq (tgt := 55) d_M_readBoth_38 (by decide) (fun q => absurd q (fun q => z ((nI_eq (by omega) (by omega)).mp q))) (fun _ => ?_)
        refine et_aload_n (i := 0) d_M_readBoth_41 rfl rfl ?_
        refine et_getf (ci := 7) 1 d_M_readBoth_42 g64 rfl in_M (by decide) fl_M_7 rfl ?_
        refine et_aload_n (i := 0) d_M_readBoth_45 rfl rfl ?_
        refine et_getf (ci := 7) 3 d_M_readBoth_46 g64 rfl in_M (by decide) fl_M_88 rfl ?_
        refine et_ialn d_M_readBoth_49 g65 (by omega) (by first | decide | omega) ?_
        refine et_bipush (v := 61) d_M_readBoth_50 (by decide) ?_
        by_cases z2 : f e = 61
        · rw [if_neg (by rintro (q | q | q) <;> first | exact q rfl | exact q z2 | cases q)] at e1
          refine et_icmp_eq (tgt := 65) d_M_readBoth_52 (by decide) (fun _ => ?_) (fun q => absurd z2 q)
          refine et_aload_n (i := 0) d_M_readBoth_65 rfl rfl ?_
          refine et_dup d_M_readBoth_66 rfl ?_
          refine et_getf (ci := 7) 3 d_M_readBoth_67 g64 rfl in_M (by decide) fl_M_88 rfl ?_
          refine et_iconst (v := 1) d_M_readBoth_70 (by decide) ?_
          refine et_iadd d_M_readBoth_71 ?_
          rw [nI_1]
          refine et_putf (ci := 7) 3 d_M_readBoth_72 g64 rfl in_M ty_M nm_M (by decide) fl_M_88 rfl rfl (fun _ => rfl) (fun _ => rfl) (Nat.le_of_ble_eq_true rfl) (fs' := [_, _, _, _, _, _, _, _, _, _, _, _, _, _, _, _, _, _, _, _, _, _, _, _, _, _, _, _, _, _, _, _, _]) rfl ?_
          refine et_aload_n (i := 0) d_M_readBoth_75 rfl rfl ?_
          refine et_getf (ci := 7) 3 d_M_readBoth_76 rfl rfl in_M (by decide) fl_M_88 rfl ?_
          refine et_istore_n (i := 3) (lv' := [_, _, _, _]) d_M_readBoth_79 rfl (by decide) rfl rfl ?_
          refine et_aload_n (i := 0) d_M_readBoth_80 rfl rfl ?_
          refine et_iload_n (i := 1) d_M_readBoth_81 rfl rfl ?_
          refine et_iload_n (i := 2) d_M_readBoth_82 rfl rfl ?_
          have three : ∀ (h2 : Nat → et_MC) (b : Int32) (en' : Int32), (∀ k, k ≠ 64 → h2 k = hh k) → ((∃ w se', fwN f true pat (sz - (e + 1)) (e + 1) 1 (e + 1) = (w + 1, e + 1) ∧ b = 0 ∧ h2 64 = et_Mo th (nI sz) (nI w) (nI w) en' al se' ru nd cs un rs dc ds) ∨ (∃ e3 se', e + 1 < e3 ∧ e3 ≤ sz ∧ fwN f true pat (sz - (e + 1)) (e + 1) 1 (e + 1) = fwN f true pat (sz - e3) e3 0 (e + 1) ∧ b = 1 ∧ h2 64 = et_Mo th (nI sz) (nI e3) wr en' al se' ru nd cs un rs dc ds)) → et_M sc Y_M_readBoth (d + 3) 0 0 (fun r h' n' => n' = n ∧ (∀ k, k ≠ 64 → h' k = h k) ∧ ∃ a' en' se', (((fwN f true pat sz 0 1 0).1 = 0 ∧ r = .inl (some (.int (nI (fwN f true pat sz 0 1 0).2))) ∧ h' 64 = et_Mo th (nI sz) a' wr en' al se' ru nd cs un rs dc ds) ∨ ((fwN f true pat sz 0 1 0).1 ≠ 0 ∧ r = .inl (some (.int (-1))) ∧ h' 64 = et_Mo th (nI sz) a' (eI (fwN f true pat sz 0 1 0).1) en' al se' ru nd cs un rs dc ds))) 97 [some (.ref 64), some (.int (nI (if pat = true then 7 else 60))), some (.int (bI pat)), some (.int (nI (e + 1)))] [.int b] h2 n 0 0 := by
            intro h2 b en' fr2 hres
            have fr3 : ∀ k, k ≠ 64 → h2 k = h k := fun k z => (fr2 k z).trans (fr k z)
            rw [show sz - e - 1 = sz - (e + 1) by omega] at e1
            rcases hres with ⟨w, se', e4, hb, k64⟩ | ⟨e3, se', e5, e6, e4, hb, k64⟩
            · subst hb
              refine et_if_eq (tgt := 122) d_M_readBoth_97 (by decide) (fun _ => ?_) (fun q => absurd rfl q)
              refine et_iconst (v := (-1)) d_M_readBoth_122 (by decide) ?_
              exact et_iret d_M_readBoth_123 rfl (Nat.le_refl _) (Nat.le_refl _) (bad w _ _ _ _ _ (e1.trans e4) fr3 k64)
            · subst hb
              refine et_if_eq (tgt := 122) d_M_readBoth_97 (by decide) (fun q => absurd q (by decide)) (fun _ => ?_)
              refine et_aload_n (i := 0) d_M_readBoth_100 rfl rfl ?_
              refine et_getf (ci := 7) 3 d_M_readBoth_101 k64 rfl in_M (by decide) fl_M_88 rfl ?_
              refine et_aload_n (i := 0) d_M_readBoth_104 rfl rfl ?_
              refine et_getf (ci := 7) 2 d_M_readBoth_105 k64 rfl in_M (by decide) fl_M_79 rfl ?_
              by_cases z3 : e3 = sz
              · subst z3
                rw [Nat.sub_self, fwN, if_pos ⟨rfl, Or.inr (Nat.succ_ne_zero _)⟩] at e4
                refine et_icmp_eq (tgt := 118) d_M_readBoth_108 (by decide) (fun _ => ?_) (fun q => absurd rfl q)
                refine et_iload_n (i := 3) d_M_readBoth_118 rfl rfl ?_
                refine et_goto (tgt := 123) d_M_readBoth_119 (by decide) ?_
                exact et_iret d_M_readBoth_123 rfl (Nat.le_refl _) (Nat.le_refl _) ⟨rfl, fr3, _, en', se', Or.inl ⟨by rw [e1, e4], by rw [e1, e4], k64⟩⟩
              · rw [show sz - e3 = (sz - e3 - 1) + 1 by omega, fwN, if_pos rfl, if_pos (Or.inr (Or.inl (Nat.succ_ne_zero _)))] at e4
                refine et_icmp_eq (tgt := 118) d_M_readBoth_108 (by decide) (fun q => absurd q (fun q => z3 ((nI_eq (by omega) (by omega)).mp q))) (fun _ => ?_)
                refine et_aload_n (i := 0) d_M_readBoth_111 rfl rfl ?_
                refine et_invV mV_M_fail (As := []) rfl d_M_readBoth_112 lk_M_94 len_M_fail k64 rfl (Nat.le_of_ble_eq_true rfl) (c_M_fail (d := d + 2) k64) (Nat.le_refl _) (Nat.le_of_ble_eq_true rfl) (Nat.le_of_ble_eq_true rfl) (fun v h' n' hp => ?_) (fun x h' n' hp => by cases hp.1)
                obtain ⟨hv, hn2, hh2⟩ := hp
                cases hv
                subst hh2
                replace hn2 := hn2.symm
                subst hn2
                refine et_if_eq (tgt := 122) d_M_readBoth_115 (by decide) (fun _ => ?_) (fun q => absurd rfl q)
                refine et_iconst (v := (-1)) d_M_readBoth_122 (by decide) ?_
                exact et_iret d_M_readBoth_123 rfl (Nat.le_refl _) (Nat.le_refl _) (bad e3 _ _ _ _ _ (e1.trans e4) (fun k z => by rw [va_ne z]; exact fr3 k z) rfl)
          cases pat with
          | false =>
            refine et_if_eq (tgt := 93) d_M_readBoth_83 (by decide) (fun _ => ?_) (fun q => absurd rfl q)
            refine et_iconst (v := 0) d_M_readBoth_93 (by decide) ?_
            refine et_invV mV_M_readSide (As := [_, _]) rfl d_M_readBoth_94 lk_M_105 len_M_readSide rfl rfl (Nat.le_of_ble_eq_true rfl) (c_M_readSide (d := d) (sz := sz) (f := f) true false (e + 1) 60 0 (fun _ => false) hsz (by omega) (Nat.le_refl _) rfl (by exact g65) hV_0 (hpt_0 hsz)) (Nat.le_refl _) (Nat.le_of_ble_eq_true rfl) (Nat.le_of_ble_eq_true rfl) (fun v h' n' hp => ?_) (fun x h' n' hp => by obtain ⟨-, -, en', ⟨w, se', -, e, -⟩ | ⟨w, se', -, -, -, e, -⟩⟩ := hp <;> cases e)
            obtain ⟨hn2, fr2, en2, hres⟩ := hp
            replace hn2 := hn2.symm
            subst hn2
            rcases hres with ⟨w, se2, e4, hv, k64⟩ | ⟨e3, se2, e5, e6, e4, hv, k64, -⟩
            · cases hv
              exact three _ 0 en2 (fun k z => by rw [fr2 k z, va_ne z]) (Or.inl ⟨w, se2, e4, rfl, k64⟩)
            · cases hv
              exact three _ 1 en2 (fun k z => by rw [fr2 k z, va_ne z]) (Or.inr ⟨e3, se2, e5, e6, e4, rfl, k64⟩)
          | true =>
            refine et_if_eq (tgt := 93) d_M_readBoth_83 (by decide) (fun q => absurd q (by decide)) (fun _ => ?_)
            refine et_aload_n (i := 0) d_M_readBoth_86 rfl rfl ?_
            refine et_getf (ci := 7) 7 d_M_readBoth_87 rfl rfl in_M (by decide) fl_M_102 rfl ?_
            refine et_goto (tgt := 94) d_M_readBoth_90 (by decide) ?_
            rw [hse rfl]
            refine et_invV mV_M_readSide (As := [_, _]) rfl d_M_readBoth_94 lk_M_105 len_M_readSide rfl rfl (Nat.le_of_ble_eq_true rfl) (c_M_readSide (d := d) (sz := sz) (f := f) true true (e + 1) 7 (metB f e) (fun c => inF f c e) hsz (by omega) (by omega) rfl (by exact g65) hV_m hpt_m) (Nat.le_refl _) (Nat.le_of_ble_eq_true rfl) (Nat.le_of_ble_eq_true rfl) (fun v h' n' hp => ?_) (fun x h' n' hp => by obtain ⟨-, -, en', ⟨w, se', -, e, -⟩ | ⟨w, se', -, -, -, e, -⟩⟩ := hp <;> cases e)
            obtain ⟨hn2, fr2, en2, hres⟩ := hp
            replace hn2 := hn2.symm
            subst hn2
            rcases hres with ⟨w, se2, e4, hv, k64⟩ | ⟨e3, se2, e5, e6, e4, hv, k64, -⟩
            · cases hv
              exact three _ 0 en2 (fun k z => by rw [fr2 k z, va_ne z]) (Or.inl ⟨w, se2, e4, rfl, k64⟩)
            · cases hv
              exact three _ 1 en2 (fun k z => by rw [fr2 k z, va_ne z]) (Or.inr ⟨e3, se2, e5, e6, e4, rfl, k64⟩)
        · rw [if_pos (Or.inr (Or.inr z2))] at e1
          refine et_icmp_eq (tgt := 65) d_M_readBoth_52 (by decide) (fun q => absurd q z2) (fun _ => ?_)
          exact fin e1
  cases pat with
  | false =>
    refine et_aload_n (i := 0) d_M_readBoth_10 rfl rfl ?_
    refine et_iload_n (i := 1) d_M_readBoth_11 rfl rfl ?_
    refine et_iload_n (i := 2) d_M_readBoth_12 rfl rfl ?_
    refine et_if_eq (tgt := 21) d_M_readBoth_13 (by decide) (fun _ => ?_) (fun q => absurd rfl q)
    refine et_iconst (v := 0) d_M_readBoth_21 (by decide) ?_
    refine et_invV mV_M_readSide (As := [_, _]) rfl d_M_readBoth_22 lk_M_105 len_M_readSide rfl rfl (Nat.le_of_ble_eq_true rfl) (c_M_readSide (d := d) (sz := sz) (f := f) true false 0 60 0 (fun _ => false) hsz (Nat.zero_le _) (Nat.le_refl _) rfl h65 hV_0 (hpt_0 hsz)) (Nat.le_refl _) (Nat.le_of_ble_eq_true rfl) (Nat.le_of_ble_eq_true rfl) (fun v h' n' hp => ?_) (fun x h' n' hp => by obtain ⟨-, -, en', ⟨w, se', -, e, -⟩ | ⟨w, se', -, -, -, e, -⟩⟩ := hp <;> cases e)
    obtain ⟨hn2, fr2, en2, hres⟩ := hp
    replace hn2 := hn2.symm
    subst hn2
    rcases hres with ⟨w, se2, e4, hv, k64⟩ | ⟨e3, se2, e5, e6, e4, hv, k64, hs⟩
    · cases hv
      exact two _ 0 en2 (fun k z => by rw [fr2 k z, va_ne z, va_ne z]) (Or.inl ⟨w, se2, e4, rfl, k64⟩)
    · cases hv
      exact two _ 1 en2 (fun k z => by rw [fr2 k z, va_ne z, va_ne z]) (Or.inr ⟨e3, se2, e5, e6, e4, rfl, k64, fun q => by cases q⟩)
  | true =>
    refine et_aload_n (i := 0) d_M_readBoth_10 rfl rfl ?_
    refine et_iload_n (i := 1) d_M_readBoth_11 rfl rfl ?_
    refine et_iload_n (i := 2) d_M_readBoth_12 rfl rfl ?_
    refine et_if_eq (tgt := 21) d_M_readBoth_13 (by decide) (fun q => absurd q (by decide)) (fun _ => ?_)
    refine et_bipush (v := 7) d_M_readBoth_16 (by decide) ?_
    refine et_goto (tgt := 22) d_M_readBoth_18 (by decide) ?_
    refine et_invV mV_M_readSide (As := [_, _]) rfl d_M_readBoth_22 lk_M_105 len_M_readSide rfl rfl (Nat.le_of_ble_eq_true rfl) (c_M_readSide (d := d) (sz := sz) (f := f) true true 0 7 7 (fun _ => true) hsz (Nat.zero_le _) (by omega) rfl h65 hV_7 hpt_7) (Nat.le_refl _) (Nat.le_of_ble_eq_true rfl) (Nat.le_of_ble_eq_true rfl) (fun v h' n' hp => ?_) (fun x h' n' hp => by obtain ⟨-, -, en', ⟨w, se', -, e, -⟩ | ⟨w, se', -, -, -, e, -⟩⟩ := hp <;> cases e)
    obtain ⟨hn2, fr2, en2, hres⟩ := hp
    replace hn2 := hn2.symm
    subst hn2
    rcases hres with ⟨w, se2, e4, hv, k64⟩ | ⟨e3, se2, e5, e6, e4, hv, k64, hs⟩
    · cases hv
      exact two _ 0 en2 (fun k z => by rw [fr2 k z, va_ne z, va_ne z]) (Or.inl ⟨w, se2, e4, rfl, k64⟩)
    · cases hv
      exact two _ 1 en2 (fun k z => by rw [fr2 k z, va_ne z, va_ne z]) (Or.inr ⟨e3, se2, e5, e6, e4, rfl, k64, fun _ => hs rfl (fun _ _ => rfl) rfl⟩)
