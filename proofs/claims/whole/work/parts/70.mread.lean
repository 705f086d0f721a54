/-! ===== the model reads a text ===== -/
theorem et_wn {c : Int32} : (97 ≤ c ∧ c ≤ 99) ↔ et_isv c := by
  have h1 : (99 : Int32).toInt = 99 := rfl
  have h2 : (100 : Int32).toInt = 100 := rfl
  constructor
  · rintro ⟨a, b⟩
    refine ⟨a, Int32.lt_iff_toInt_lt.mpr ?_⟩
    have := Int32.le_iff_toInt_le.mp b
    omega
  · rintro ⟨a, b⟩
    refine ⟨a, Int32.le_iff_toInt_le.mpr ?_⟩
    have := Int32.lt_iff_toInt_lt.mp b
    omega
theorem nI_stp2 {need : Nat} {p : Int32} (h : need ≠ 0) (hp : p = 0 ∨ p = 1 ∨ p = 2) : nI need - 1 + p = nI (need - 1 + p.toNatClampNeg) := by
  rw [← nI_step h hp, Int32.sub_eq_add_neg, Int32.add_assoc, Int32.add_comm (-1) p, ← Int32.sub_eq_add_neg]
theorem nI_m1 {need : Nat} (h : need ≠ 0) : nI need - 1 = nI (need - 1 + (0 : Int32).toNatClampNeg) := by
  rw [← nI_stp2 h (Or.inl rfl), Int32.add_zero]
theorem et_w6a {a b c d o4 o5 : Option Value} : ∀ (j : Nat) (v : Value), ([a, b, c, d, none, none] : List (Option Value))[j]? = some (some v) → ([a, b, c, d, o4, o5] : List (Option Value))[j]? = some (some v)
  | 0, _, h => h
  | 1, _, h => h
  | 2, _, h => h
  | 3, _, h => h
  | 4, _, h => by simp at h
  | 5, _, h => by simp at h
  | j + 6, _, h => by simp at h
set_option maxHeartbeats 4000000 in
set_option maxRecDepth 100000 in
theorem c_M_readSide {sc : et_X} {h : Nat → et_MC} {d n : Nat} {th wr en al se ru nd cs un rs : Int32} {dc ds : Int64} {f : Nat → Int32} {sz : Nat} (two pat : Bool) (mid most : Nat) (va : Int32) (V : Int32 → Bool) (hsz : sz ≤ 60) (hm : mid ≤ sz) (hmo : most ≤ 60) (h64 : h 64 = et_Mo th (nI sz) (nI mid) wr en al se ru nd cs un rs dc ds) (h65 : h 65 = .inl (0, 60, .inl f)) (hV : ∀ c, et_isv c → ((va >>> ((c - 97) &&& 31)) &&& 1 = 1 ↔ V c = true)) (hpt : ∀ i, mid ≤ i → i < sz → ptI f pat mid i = if mid + most ≤ i then -1 else if et_isv (f i) ∧ V (f i) = true then 0 else et_pt (f i)) : et_Cn sc Y_M_readSide (d + 2) [.ref 64, .int (nI most), .int va] h n 0 0 (fun r h' n' => n' = n ∧ (∀ k, k ≠ 64 → h' k = h k) ∧ ∃ en', ((∃ w se', fwN f two pat (sz - mid) mid 1 mid = (w + 1, mid) ∧ r = .inl (some (.int 0)) ∧ h' 64 = et_Mo th (nI sz) (nI w) (nI w) en' al se' ru nd cs un rs dc ds) ∨ (∃ e se', mid < e ∧ e ≤ sz ∧ fwN f two pat (sz - mid) mid 1 mid = fwN f two pat (sz - e) e 0 mid ∧ r = .inl (some (.int 1)) ∧ h' 64 = et_Mo th (nI sz) (nI e) wr en' al se' ru nd cs un rs dc ds ∧ (mid = 0 → (∀ c, et_isv c → V c = true) → se = 0 → se' = metB f e)))) := by
  refine et_Cn.of 3 rfl rfl (by decide) mV_M_readSide.1 ?_
  have loop : ∀ (t i need : Nat) (se2 en2 : Int32) (hh : Nat → et_MC) (o4 o5 : Option Value), en2 = nI (min (mid + most) sz) → i + t = min (mid + most) sz → mid ≤ i → need ≤ 1 + i → (need = 0 → mid < i) → fwN f two pat (sz - mid) mid 1 mid = fwN f two pat (sz - i) i need mid → (mid = 0 → (∀ c, et_isv c → V c = true) → se = 0 → se2 = metB f i) → hh 64 = et_Mo th (nI sz) (nI i) wr en2 al se2 ru nd cs un rs dc ds → (∀ k, k ≠ 64 → hh k = h k) → et_M sc Y_M_readSide (d + 2) 0 0 (fun r h' n' => n' = n ∧ (∀ k, k ≠ 64 → h' k = h k) ∧ ∃ en', ((∃ w se', fwN f two pat (sz - mid) mid 1 mid = (w + 1, mid) ∧ r = .inl (some (.int 0)) ∧ h' 64 = et_Mo th (nI sz) (nI w) (nI w) en' al se' ru nd cs un rs dc ds) ∨ (∃ e se', mid < e ∧ e ≤ sz ∧ fwN f two pat (sz - mid) mid 1 mid = fwN f two pat (sz - e) e 0 mid ∧ r = .inl (some (.int 1)) ∧ h' 64 = et_Mo th (nI sz) (nI e) wr en' al se' ru nd cs un rs dc ds ∧ (mid = 0 → (∀ c, et_isv c → V c = true) → se = 0 → se' = metB f e)))) 32 [some (.ref 64), some (.int (nI most)), some (.int va), some (.int (nI need)), none, none] [] hh n 0 0 := by
    intro t
    induction t with
    | zero =>
      intro i need se2 en2 hh o4 o5 hen hi hmi hnd hn0 hfw hsee g64 fr
      subst hen
      by_cases z : need = 0
      · subst z
        refine et_iload_n (i := 3) d_M_readSide_32 rfl rfl ?_
        refine et_if_le (tgt := 176) d_M_readSide_33 (by decide) (fun _ => ?_) (fun q => absurd (by decide) q)
        refine et_iconst (v := 1) d_M_readSide_176 (by decide) ?_
        exact et_zret d_M_readSide_177 rfl rfl (Nat.le_refl _) (Nat.le_refl _) ⟨rfl, fr, _, Or.inr ⟨i, se2, hn0 rfl, by omega, hfw, rfl, g64, hsee⟩⟩
      · have wrong : fwN f two pat (sz - i) i need mid = (i + 1, mid) := by
          by_cases e : i = sz
          · subst e
            rw [Nat.sub_self, fwN, if_neg (by rintro ⟨q, -⟩; exact z q)]
          · rw [show sz - i = (sz - i - 1) + 1 by omega, fwN, if_neg z, if_pos (by rw [hpt i hmi (by omega), if_pos (by omega)])]
        refine et_iload_n (i := 3) d_M_readSide_32 rfl rfl ?_
        refine et_if_le (tgt := 176) d_M_readSide_33 (by decide) (fun q => absurd q (nI_nle (by omega) (by omega))) (fun _ => ?_)
        refine et_aload_n (i := 0) d_M_readSide_36 rfl rfl ?_
        refine et_getf (ci := 7) 3 d_M_readSide_37 g64 rfl in_M (by decide) fl_M_88 rfl ?_
        refine et_aload_n (i := 0) d_M_readSide_40 rfl rfl ?_
        refine et_getf (ci := 7) 5 d_M_readSide_41 g64 rfl in_M (by decide) fl_M_91 rfl ?_
        refine et_icmp_lt (tgt := 52) d_M_readSide_44 (by decide) (fun q => absurd q (nI_nlt (by omega) (by omega))) (fun _ => ?_)
        refine et_aload_n (i := 0) d_M_readSide_47 rfl rfl ?_
        refine et_invV mV_M_fail (As := []) rfl d_M_readSide_48 lk_M_94 len_M_fail g64 rfl (Nat.le_of_ble_eq_true rfl) (c_M_fail (d := d + 1) g64) (Nat.le_refl _) (Nat.le_of_ble_eq_true rfl) (Nat.le_of_ble_eq_true rfl) (fun v h' n' hp => ?_) (fun x h' n' hp => by cases hp.1)
        obtain ⟨hv, hn2, hh2⟩ := hp
        cases hv
        subst hh2
        replace hn2 := hn2.symm
        subst hn2
        exact et_zret d_M_readSide_51 rfl rfl (Nat.le_refl _) (Nat.le_refl _) ⟨rfl, fun k e => by simp [va_up, e, fr k e], _, Or.inl ⟨i, se2, hfw.trans wrong, rfl, rfl⟩⟩
    | succ t ih =>
      intro i need se2 en2 hh o4 o5 hen hi hmi hnd hn0 hfw hsee g64 fr
      have g65 : hh 65 = .inl (0, 60, .inl f) := (fr 65 (by decide)).trans h65
      by_cases z : need = 0
      · subst z
        refine et_iload_n (i := 3) d_M_readSide_32 rfl rfl ?_
        refine et_if_le (tgt := 176) d_M_readSide_33 (by decide) (fun _ => ?_) (fun q => absurd (by decide) q)
        refine et_iconst (v := 1) d_M_readSide_176 (by decide) ?_
        exact et_zret d_M_readSide_177 rfl rfl (Nat.le_refl _) (Nat.le_refl _) ⟨rfl, fr, _, Or.inr ⟨i, se2, hn0 rfl, by omega, hfw, rfl, g64, hsee⟩⟩
      · have hp0 := hpt i hmi (by omega)
        rw [if_neg (by omega)] at hp0
        have stp : ∀ p, ptI f pat mid i = p → p ≠ -1 → fwN f two pat (sz - mid) mid 1 mid = fwN f two pat (sz - (i + 1)) (i + 1) (need - 1 + p.toNatClampNeg) mid := by
          intro p hp hne
          rw [hfw, show sz - i = (sz - (i + 1)) + 1 by omega, fwN, if_neg z, hp, if_neg hne]
        have bd : ∀ p, ptI f pat mid i = p → need - 1 + p.toNatClampNeg ≤ 1 + (i + 1) := by
          intro p hp
          rcases ptI_cases f pat mid i with e | e | e | e <;> rw [e] at hp <;> subst hp
          · show need - 1 + 0 ≤ _; omega
          · show need - 1 + 0 ≤ _; omega
          · show need - 1 + 1 ≤ _; omega
          · show need - 1 + 2 ≤ _; omega
        rw [hen] at g64
        refine et_iload_n (i := 3) d_M_readSide_32 rfl rfl ?_
        refine et_if_le (tgt := 176) d_M_readSide_33 (by decide) (fun q => absurd q (nI_nle (by omega) (by omega))) (fun _ => ?_)
        refine et_aload_n (i := 0) d_M_readSide_36 rfl rfl ?_
        refine et_getf (ci := 7) 3 d_M_readSide_37 g64 rfl in_M (by decide) fl_M_88 rfl ?_
        refine et_aload_n (i := 0) d_M_readSide_40 rfl rfl ?_
        refine et_getf (ci := 7) 5 d_M_readSide_41 g64 rfl in_M (by decide) fl_M_91 rfl ?_
        refine et_icmp_lt (tgt := 52) d_M_readSide_44 (by decide) (fun _ => ?_) (fun q => absurd (nI_lt (by omega) (by omega)) q)
        refine et_aload_n (i := 0) d_M_readSide_52 rfl rfl ?_
        refine et_getf (ci := 7) 1 d_M_readSide_53 g64 rfl in_M (by decide) fl_M_7 rfl ?_
        refine et_aload_n (i := 0) d_M_readSide_56 rfl rfl ?_
        refine et_getf (ci := 7) 3 d_M_readSide_57 g64 rfl in_M (by decide) fl_M_88 rfl ?_
        refine et_ialn d_M_readSide_60 g65 (by omega) (by first | decide | omega) ?_
        refine et_istore (lv' := [_, _, _, _, _, _]) d_M_readSide_61 (by decide) rfl rfl ?_
        refine et_iload d_M_readSide_63 rfl ?_
        refine et_bipush (v := 97) d_M_readSide_65 (by decide) ?_
        refine et_bipush (v := 99) d_M_readSide_67 (by decide) ?_
        refine et_invS mS_M_within (As := [_, _, _]) rfl d_M_readSide_69 lk_M_75 len_M_within (Nat.le_of_ble_eq_true rfl) (c_M_within (d := d + 1) (f i) 97 99) (Nat.le_refl _) (Nat.le_of_ble_eq_true rfl) (Nat.le_of_ble_eq_true rfl) (fun v h' n' hp => ?_) (fun x h' n' hp => by cases hp.1)
        obtain ⟨hv, hn2, hh2⟩ := hp
        cases hv
        subst hh2
        replace hn2 := hn2.symm
        subst hn2
        by_cases hv : et_isv (f i)
        · rw [if_pos (et_wn.mpr hv)]
          refine et_if_eq (tgt := 92) d_M_readSide_72 (by decide) (fun q => absurd q (by decide)) (fun _ => ?_)
          refine et_iload_n (i := 2) d_M_readSide_75 rfl rfl ?_
          refine et_iload d_M_readSide_76 rfl ?_
          refine et_bipush (v := 97) d_M_readSide_78 (by decide) ?_
          refine et_isub d_M_readSide_80 ?_
          refine et_ishr d_M_readSide_81 ?_
          refine et_iconst (v := 1) d_M_readSide_82 (by decide) ?_
          refine et_iand d_M_readSide_83 ?_
          refine et_iconst (v := 1) d_M_readSide_84 (by decide) ?_
          refine et_icmp_ne (tgt := 92) d_M_readSide_85 (by decide) (fun q => ?_) (fun q => ?_)
          · have hnv : ¬ (et_isv (f i) ∧ V (f i) = true) := fun y => q ((hV _ hv).mpr y.2)
            rw [if_neg hnv] at hp0
            refine et_iconst (v := 0) d_M_readSide_92 (by decide) ?_
            refine et_istore (lv' := [_, _, _, _, _, _]) d_M_readSide_93 (by decide) rfl rfl ?_
            refine et_iload d_M_readSide_95 rfl ?_
            refine et_if_ne (tgt := 114) d_M_readSide_97 (by decide) (fun q => absurd rfl q) (fun _ => ?_)
            refine et_iload d_M_readSide_100 rfl ?_
            refine et_invS mS_M_takes (As := [_]) rfl d_M_readSide_102 lk_M_98 len_M_takes (Nat.le_of_ble_eq_true rfl) (c_M_takes (d := d) (f i)) (Nat.le_refl _) (Nat.le_of_ble_eq_true rfl) (Nat.le_of_ble_eq_true rfl) (fun v h' n' hp => ?_) (fun x h' n' hp => by cases hp.1)
            obtain ⟨hv, hn2, hh2⟩ := hp
            cases hv
            subst hh2
            replace hn2 := hn2.symm
            subst hn2
            refine et_iconst (v := (-1)) d_M_readSide_105 (by decide) ?_
            refine et_icmp_ne (tgt := 114) d_M_readSide_106 (by decide) (fun q => ?_) (fun q => ?_)
            · refine et_aload_n (i := 0) d_M_readSide_114 rfl rfl ?_
              refine et_iload d_M_readSide_115 rfl ?_
              refine et_if_eq (tgt := 135) d_M_readSide_117 (by decide) (fun _ => ?_) (fun q => absurd rfl q)
              refine et_aload_n (i := 0) d_M_readSide_135 rfl rfl ?_
              refine et_getf (ci := 7) 7 d_M_readSide_136 g64 rfl in_M (by decide) fl_M_102 rfl ?_
              refine et_putf (ci := 7) 7 d_M_readSide_139 g64 rfl in_M ty_M nm_M (by decide) fl_M_102 rfl rfl (fun _ => rfl) (fun _ => rfl) (Nat.le_of_ble_eq_true rfl) (fs' := [_, _, _, _, _, _, _, _, _, _, _, _, _, _, _, _, _, _, _, _, _, _, _, _, _, _, _, _, _, _, _, _, _]) rfl ?_
              refine et_iload d_M_readSide_142 rfl ?_
              refine et_if_eq (tgt := 153) d_M_readSide_144 (by decide) (fun _ => ?_) (fun q => absurd rfl q)
              refine et_iload_n (i := 3) d_M_readSide_153 rfl rfl ?_
              refine et_iconst (v := 1) d_M_readSide_154 (by decide) ?_
              refine et_isub d_M_readSide_155 ?_
              refine et_iload d_M_readSide_156 rfl ?_
              refine et_invS mS_M_takes (As := [_]) rfl d_M_readSide_158 lk_M_98 len_M_takes (Nat.le_of_ble_eq_true rfl) (c_M_takes (d := d) (f i)) (Nat.le_refl _) (Nat.le_of_ble_eq_true rfl) (Nat.le_of_ble_eq_true rfl) (fun v h' n' hp => ?_) (fun x h' n' hp => by cases hp.1)
              obtain ⟨hv, hn2, hh2⟩ := hp
              cases hv
              subst hh2
              replace hn2 := hn2.symm
              subst hn2
              refine et_iadd d_M_readSide_161 ?_
              rw [nI_stp2 z ((et_pt_cases (f i)).resolve_left q)]
              refine et_istore_n (i := 3) (lv' := [_, _, _, _, _, _]) d_M_readSide_162 rfl (by decide) rfl rfl ?_
              refine et_aload_n (i := 0) d_M_readSide_163 rfl rfl ?_
              refine et_dup d_M_readSide_164 rfl ?_
              refine et_getf (ci := 7) 3 d_M_readSide_165 rfl rfl in_M (by decide) fl_M_88 rfl ?_
              refine et_iconst (v := 1) d_M_readSide_168 (by decide) ?_
              refine et_iadd d_M_readSide_169 ?_
              rw [nI_1]
              refine et_putf (ci := 7) 3 d_M_readSide_170 rfl rfl in_M ty_M nm_M (by decide) fl_M_88 rfl rfl (fun _ => rfl) (fun _ => rfl) (Nat.le_of_ble_eq_true rfl) (fs' := [_, _, _, _, _, _, _, _, _, _, _, _, _, _, _, _, _, _, _, _, _, _, _, _, _, _, _, _, _, _, _, _, _]) rfl ?_
              refine et_goto (tgt := 32) d_M_readSide_173 (by decide) ?_
              refine et_weak et_w6a (ih (i + 1) _ se2 _ _ none none rfl (by omega) (by omega) (bd _ hp0) (fun _ => by omega) (stp _ hp0 q) (fun a b c => ?_) rfl (fun k e => by simp [va_up, e, fr k e]))
              rw [hsee a b c, met_no (fun y => hnv ⟨y, b _ y⟩)]
            · have q := q
              refine et_aload_n (i := 0) d_M_readSide_109 rfl rfl ?_
              refine et_invV mV_M_fail (As := []) rfl d_M_readSide_110 lk_M_94 len_M_fail g64 rfl (Nat.le_of_ble_eq_true rfl) (c_M_fail (d := d + 1) g64) (Nat.le_refl _) (Nat.le_of_ble_eq_true rfl) (Nat.le_of_ble_eq_true rfl) (fun v h' n' hp => ?_) (fun x h' n' hp => by cases hp.1)
              obtain ⟨hv, hn2, hh2⟩ := hp
              cases hv
              subst hh2
              replace hn2 := hn2.symm
              subst hn2
              exact et_zret d_M_readSide_113 rfl rfl (Nat.le_refl _) (Nat.le_refl _) ⟨rfl, fun k e => by simp [va_up, e, fr k e], _, Or.inl ⟨i, se2, by rw [hfw, show sz - i = (sz - i - 1) + 1 by omega, fwN, if_neg z, if_pos (hp0.trans q)], rfl, rfl⟩⟩
          · have q := q
            have hyv := (hV _ hv).mp q
            rw [if_pos ⟨hv, hyv⟩] at hp0
            refine et_iconst (v := 1) d_M_readSide_88 (by decide) ?_
            refine et_goto (tgt := 93) d_M_readSide_89 (by decide) ?_
            refine et_istore (lv' := [_, _, _, _, _, _]) d_M_readSide_93 (by decide) rfl rfl ?_
            refine et_iload d_M_readSide_95 rfl ?_
            refine et_if_ne (tgt := 114) d_M_readSide_97 (by decide) (fun _ => ?_) (fun q => absurd q (by decide))
            refine et_aload_n (i := 0) d_M_readSide_114 rfl rfl ?_
            refine et_iload d_M_readSide_115 rfl ?_
            refine et_if_eq (tgt := 135) d_M_readSide_117 (by decide) (fun q => absurd q (by decide)) (fun _ => ?_)
            refine et_aload_n (i := 0) d_M_readSide_120 rfl rfl ?_
            refine et_getf (ci := 7) 7 d_M_readSide_121 g64 rfl in_M (by decide) fl_M_102 rfl ?_
            refine et_iconst (v := 1) d_M_readSide_124 (by decide) ?_
            refine et_iload d_M_readSide_125 rfl ?_
            refine et_bipush (v := 97) d_M_readSide_127 (by decide) ?_
            refine et_isub d_M_readSide_129 ?_
            refine et_ishl d_M_readSide_130 ?_
            refine et_ior d_M_readSide_131 ?_
            refine et_goto (tgt := 139) d_M_readSide_132 (by decide) ?_
            refine et_putf (ci := 7) 7 d_M_readSide_139 g64 rfl in_M ty_M nm_M (by decide) fl_M_102 rfl rfl (fun _ => rfl) (fun _ => rfl) (Nat.le_of_ble_eq_true rfl) (fs' := [_, _, _, _, _, _, _, _, _, _, _, _, _, _, _, _, _, _, _, _, _, _, _, _, _, _, _, _, _, _, _, _, _]) rfl ?_
            refine et_iload d_M_readSide_142 rfl ?_
            refine et_if_eq (tgt := 153) d_M_readSide_144 (by decide) (fun q => absurd q (by decide)) (fun _ => ?_)
            refine et_iload_n (i := 3) d_M_readSide_147 rfl rfl ?_
            refine et_iconst (v := 1) d_M_readSide_148 (by decide) ?_
            refine et_isub d_M_readSide_149 ?_
            rw [nI_m1 z]
            refine et_goto (tgt := 162) d_M_readSide_150 (by decide) ?_
            refine et_istore_n (i := 3) (lv' := [_, _, _, _, _, _]) d_M_readSide_162 rfl (by decide) rfl rfl ?_
            refine et_aload_n (i := 0) d_M_readSide_163 rfl rfl ?_
            refine et_dup d_M_readSide_164 rfl ?_
            refine et_getf (ci := 7) 3 d_M_readSide_165 rfl rfl in_M (by decide) fl_M_88 rfl ?_
            refine et_iconst (v := 1) d_M_readSide_168 (by decide) ?_
            refine et_iadd d_M_readSide_169 ?_
            rw [nI_1]
            refine et_putf (ci := 7) 3 d_M_readSide_170 rfl rfl in_M ty_M nm_M (by decide) fl_M_88 rfl rfl (fun _ => rfl) (fun _ => rfl) (Nat.le_of_ble_eq_true rfl) (fs' := [_, _, _, _, _, _, _, _, _, _, _, _, _, _, _, _, _, _, _, _, _, _, _, _, _, _, _, _, _, _, _, _, _]) rfl ?_
            refine et_goto (tgt := 32) d_M_readSide_173 (by decide) ?_
            refine et_weak et_w6a (ih (i + 1) _ (se2 ||| ((1 : Int32) <<< ((f i - 97) &&& 31))) _ _ none none rfl (by omega) (by omega) (bd _ hp0) (fun _ => by omega) (stp _ hp0 (by decide)) (fun a b c => ?_) rfl (fun k e => by simp [va_up, e, fr k e]))
            rw [hsee a b c, met_or hv]
        · rw [if_neg (fun y => hv (et_wn.mp y))]
          have hnv : ¬ (et_isv (f i) ∧ V (f i) = true) := fun y => hv y.1
          rw [if_neg hnv] at hp0
          refine et_if_eq (tgt := 92) d_M_readSide_72 (by decide) (fun _ => ?_) (fun q => absurd rfl q)
          refine et_iconst (v := 0) d_M_readSide_92 (by decide) ?_
          refine et_istore (lv' := [_, _, _, _, _, _]) d_M_readSide_93 (by decide) rfl rfl ?_
          refine et_iload d_M_readSide_95 rfl ?_
          refine et_if_ne (tgt := 114) d_M_readSide_97 (by decide) (fun q => absurd rfl q) (fun _ => ?_)
          refine et_iload d_M_readSide_100 rfl ?_
          refine et_invS mS_M_takes (As := [_]) rfl d_M_readSide_102 lk_M_98 len_M_takes (Nat.le_of_ble_eq_true rfl) (c_M_takes (d := d) (f i)) (Nat.le_refl _) (Nat.le_of_ble_eq_true rfl) (Nat.le_of_ble_eq_true rfl) (fun v h' n' hp => ?_) (fun x h' n' hp => by cases hp.1)
          obtain ⟨hv, hn2, hh2⟩ := hp
          cases hv
          subst hh2
          replace hn2 := hn2.symm
          subst hn2
          refine et_iconst (v := (-1)) d_M_readSide_105 (by decide) ?_
          refine et_icmp_ne (tgt := 114) d_M_readSide_106 (by decide) (fun q => ?_) (fun q => ?_)
          · refine et_aload_n (i := 0) d_M_readSide_114 rfl rfl ?_
            refine et_iload d_M_readSide_115 rfl ?_
            refine et_if_eq (tgt := 135) d_M_readSide_117 (by decide) (fun _ => ?_) (fun q => absurd rfl q)
            refine et_aload_n (i := 0) d_M_readSide_135 rfl rfl ?_
            refine et_getf (ci := 7) 7 d_M_readSide_136 g64 rfl in_M (by decide) fl_M_102 rfl ?_
            refine et_putf (ci := 7) 7 d_M_readSide_139 g64 rfl in_M ty_M nm_M (by decide) fl_M_102 rfl rfl (fun _ => rfl) (fun _ => rfl) (Nat.le_of_ble_eq_true rfl) (fs' := [_, _, _, _, _, _, _, _, _, _, _, _, _, _, _, _, _, _, _, _, _, _, _, _, _, _, _, _, _, _, _, _, _]) rfl ?_
            refine et_iload d_M_readSide_142 rfl ?_
            refine et_if_eq (tgt := 153) d_M_readSide_144 (by decide) (fun _ => ?_) (fun q => absurd rfl q)
            refine et_iload_n (i := 3) d_M_readSide_153 rfl rfl ?_
            refine et_iconst (v := 1) d_M_readSide_154 (by decide) ?_
            refine et_isub d_M_readSide_155 ?_
            refine et_iload d_M_readSide_156 rfl ?_
            refine et_invS mS_M_takes (As := [_]) rfl d_M_readSide_158 lk_M_98 len_M_takes (Nat.le_of_ble_eq_true rfl) (c_M_takes (d := d) (f i)) (Nat.le_refl _) (Nat.le_of_ble_eq_true rfl) (Nat.le_of_ble_eq_true rfl) (fun v h' n' hp => ?_) (fun x h' n' hp => by cases hp.1)
            obtain ⟨hv, hn2, hh2⟩ := hp
            cases hv
            subst hh2
            replace hn2 := hn2.symm
            subst hn2
            refine et_iadd d_M_readSide_161 ?_
            rw [nI_stp2 z ((et_pt_cases (f i)).resolve_left q)]
            refine et_istore_n (i := 3) (lv' := [_, _, _, _, _, _]) d_M_readSide_162 rfl (by decide) rfl rfl ?_
            refine et_aload_n (i := 0) d_M_readSide_163 rfl rfl ?_
            refine et_dup d_M_readSide_164 rfl ?_
            refine et_getf (ci := 7) 3 d_M_readSide_165 rfl rfl in_M (by decide) fl_M_88 rfl ?_
            refine et_iconst (v := 1) d_M_readSide_168 (by decide) ?_
            refine et_iadd d_M_readSide_169 ?_
            rw [nI_1]
            refine et_putf (ci := 7) 3 d_M_readSide_170 rfl rfl in_M ty_M nm_M (by decide) fl_M_88 rfl rfl (fun _ => rfl) (fun _ => rfl) (Nat.le_of_ble_eq_true rfl) (fs' := [_, _, _, _, _, _, _, _, _, _, _, _, _, _, _, _, _, _, _, _, _, _, _, _, _, _, _, _, _, _, _, _, _]) rfl ?_
            refine et_goto (tgt := 32) d_M_readSide_173 (by decide) ?_
            refine et_weak et_w6a (ih (i + 1) _ se2 _ _ none none rfl (by omega) (by omega) (bd _ hp0) (fun _ => by omega) (stp _ hp0 q) (fun a b c => ?_) rfl (fun k e => by simp [va_up, e, fr k e]))
            rw [hsee a b c, met_no (fun y => hnv ⟨y, b _ y⟩)]
          · have q := q
            refine et_aload_n (i := 0) d_M_readSide_109 rfl rfl ?_
            refine et_invV mV_M_fail (As := []) rfl d_M_readSide_110 lk_M_94 len_M_fail g64 rfl (Nat.le_of_ble_eq_true rfl) (c_M_fail (d := d + 1) g64) (Nat.le_refl _) (Nat.le_of_ble_eq_true rfl) (Nat.le_of_ble_eq_true rfl) (fun v h' n' hp => ?_) (fun x h' n' hp => by cases hp.1)
            obtain ⟨hv, hn2, hh2⟩ := hp
            cases hv
            subst hh2
            replace hn2 := hn2.symm
            subst hn2
            exact et_zret d_M_readSide_113 rfl rfl (Nat.le_refl _) (Nat.le_refl _) ⟨rfl, fun k e => by simp [va_up, e, fr k e], _, Or.inl ⟨i, se2, by rw [hfw, show sz - i = (sz - i - 1) + 1 by omega, fwN, if_neg z, if_pos (hp0.trans q)], rfl, rfl⟩⟩
  refine et_aload_n (i := 0) d_M_readSide_0 rfl rfl ?_
  refine et_aload_n (i := 0) d_M_readSide_1 rfl rfl ?_
  refine et_getf (ci := 7) 3 d_M_readSide_2 h64 rfl in_M (by decide) fl_M_88 rfl ?_
  refine et_iload_n (i := 1) d_M_readSide_5 rfl rfl ?_
  refine et_iadd d_M_readSide_6 ?_
  rw [nI_add]
  refine et_aload_n (i := 0) d_M_readSide_7 rfl rfl ?_
  refine et_getf (ci := 7) 2 d_M_readSide_8 h64 rfl in_M (by decide) fl_M_79 rfl ?_
  refine et_icmp_ge (tgt := 23) d_M_readSide_11 (by decide) (fun q => ?_) (fun q => ?_)
  · have q2 : sz ≤ mid + most := Nat.le_of_not_lt fun y => absurd q (nI_ge y (by omega))
    refine et_aload_n (i := 0) d_M_readSide_23 rfl rfl ?_
    refine et_getf (ci := 7) 2 d_M_readSide_24 h64 rfl in_M (by decide) fl_M_79 rfl ?_
    refine et_putf (ci := 7) 5 d_M_readSide_27 h64 rfl in_M ty_M nm_M (by decide) fl_M_91 rfl rfl (fun _ => rfl) (fun _ => rfl) (Nat.le_of_ble_eq_true rfl) (fs' := [_, _, _, _, _, _, _, _, _, _, _, _, _, _, _, _, _, _, _, _, _, _, _, _, _, _, _, _, _, _, _, _, _]) rfl ?_
    refine et_iconst (v := 1) d_M_readSide_30 (by decide) ?_
    refine et_istore_n (i := 3) (lv' := [_, _, _, _, _, _]) d_M_readSide_31 rfl (by decide) rfl rfl ?_
    refine loop (min (mid + most) sz - mid) mid 1 se _ _ none none (by rw [Nat.min_eq_right q2]) (by omega) (Nat.le_refl _) (by omega) (fun y => by cases y) rfl (fun a _ c => by rw [c, a, metB_0]) rfl (fun k e => by simp [va_up, e])
  · have q2 : mid + most < sz := Nat.lt_of_not_le fun y => q (nI_le y (by omega))
    refine et_aload_n (i := 0) d_M_readSide_14 rfl rfl ?_
    refine et_getf (ci := 7) 3 d_M_readSide_15 h64 rfl in_M (by decide) fl_M_88 rfl ?_
    refine et_iload_n (i := 1) d_M_readSide_18 rfl rfl ?_
    refine et_iadd d_M_readSide_19 ?_
    rw [nI_add]
    refine et_goto (tgt := 27) d_M_readSide_20 (by decide) ?_
    refine et_putf (ci := 7) 5 d_M_readSide_27 h64 rfl in_M ty_M nm_M (by decide) fl_M_91 rfl rfl (fun _ => rfl) (fun _ => rfl) (Nat.le_of_ble_eq_true rfl) (fs' := [_, _, _, _, _, _, _, _, _, _, _, _, _, _, _, _, _, _, _, _, _, _, _, _, _, _, _, _, _, _, _, _, _]) rfl ?_
    refine et_iconst (v := 1) d_M_readSide_30 (by decide) ?_
    refine et_istore_n (i := 3) (lv' := [_, _, _, _, _, _]) d_M_readSide_31 rfl (by decide) rfl rfl ?_
    refine loop (min (mid + most) sz - mid) mid 1 se _ _ none none (by rw [Nat.min_eq_left (Nat.le_of_lt q2)]) (by omega) (Nat.le_refl _) (by omega) (fun y => by cases y) rfl (fun a _ c => by rw [c, a, metB_0]) rfl (fun k e => by simp [va_up, e])
