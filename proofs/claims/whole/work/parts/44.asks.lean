/-! ===== the class's calls that read the text, add, unite and ask ===== -/
/-- text, graph and walk of the class -/
def et_EC (f : Nat → Int32) (sz : Nat) (wp : Int32) (x : gx) (h : Nat → et_MC) : Prop := (∃ rc, h 0 = .inr (6, [.ref 1, .ref 3, .ref 10, .ref 13, .ref 17, .ref 63, .int rc])) ∧ (∃ md, h 1 = .inr (4, [.ref 2, .int (nI sz), .int md, .int wp])) ∧ h 2 = .inl (0, 60, .inl f) ∧ et_gh x h ∧ h 10 = .inr (5, [.ref 11, .ref 3, .ref 12]) ∧ (∃ va, h 11 = .inl (0, 3, .inl va)) ∧ ∃ st, h 12 = .inl (0, 60, .inl st)
/-- the cells beside text, graph and walk; cell n is new -/
def et_fr (n : Nat) (h h' : Nat → et_MC) : Prop := ∀ k, (k = 0 ∨ k = 11 ∨ 12 < k) → k ≠ n → h' k = h k
def gLook (x : gx) (w : List Int32) : Nat := match gEval false 40 (fun _ => 0) w x with
  | some ([c], _) => c + 1
  | _ => 0
set_option maxHeartbeats 4000000 in
set_option maxRecDepth 100000 in
theorem c_T_noteWrong2 {sc : et_X} {h : Nat → et_MC} {d n : Nat} {sz md wp : Int32} (w : Nat) (hw : w < 2 ^ 31) (h1 : h 1 = .inr (4, [.ref 2, .int sz, .int md, .int wp])) : et_Cn sc Y_T_noteWrong d [.ref 1, .int (eI w)] h n 0 0 (fun r h' n' => (w = 0 ∧ r = .inl (some (.int 1)) ∧ n' = n ∧ h' = h) ∨ (w ≠ 0 ∧ r = .inl (some (.int 0)) ∧ n' = n ∧ h' = va_up h 1 (.inr (4, [.ref 2, .int sz, .int md, .int (eI w)])))) := by
  refine et_Cn.of 0 rfl rfl (by decide) mV_T_noteWrong.1 ?_
  refine et_iload_n (i := 1) d_T_noteWrong_0 rfl rfl ?_
  refine et_iconst (v := (-1)) d_T_noteWrong_1 (by decide) ?_
  refine et_icmp_ne (tgt := 7) d_T_noteWrong_2 (by decide) (fun q => ?_) (fun q => ?_)
  · have q2 : w ≠ 0 := fun z => q ((eI_none hw).mpr z)
    refine et_aload_n (i := 0) d_T_noteWrong_7 rfl rfl ?_
    refine et_iload_n (i := 1) d_T_noteWrong_8 rfl rfl ?_
    refine et_putf (ci := 4) 3 d_T_noteWrong_9 h1 rfl in_T ty_T nm_T (by decide) fl_T_22 rfl rfl (fun _ => rfl) (fun _ => rfl) (Nat.le_of_ble_eq_true rfl) (fs' := [_, _, _, _]) rfl ?_
    refine et_iconst (v := 0) d_T_noteWrong_12 (by decide) ?_
    exact et_zret d_T_noteWrong_13 rfl rfl (Nat.le_of_ble_eq_true rfl) (Nat.le_of_ble_eq_true rfl) (Or.inr ⟨q2, rfl, rfl, rfl⟩)
  · have q2 : w = 0 := (eI_none hw).mp q
    refine et_iconst (v := 1) d_T_noteWrong_5 (by decide) ?_
    exact et_zret d_T_noteWrong_6 rfl rfl (Nat.le_of_ble_eq_true rfl) (Nat.le_of_ble_eq_true rfl) (Or.inl ⟨q2, rfl, rfl, rfl⟩)
theorem fw_le {f : Nat → Int32} {two pat : Bool} : ∀ {t i need mid : Nat}, (fwN f two pat t i need mid).1 ≤ i + t + 1
  | 0, i, need, mid => by
    unfold fwN
    show (if _ then 0 else i + 1) ≤ i + 0 + 1
    split
    · exact Nat.zero_le _
    · exact Nat.le_refl _
  | t + 1, i, need, mid => by
    unfold fwN
    split
    · split
      · show i + 1 ≤ _; omega
      · have := fw_le (f := f) (two := two) (pat := pat) (t := t) (i := i + 1) (need := 1) (mid := i + 1); omega
    · split
      · show i + 1 ≤ _; omega
      · have := fw_le (f := f) (two := two) (pat := pat) (t := t) (i := i + 1) (need := need - 1 + (ptI f pat mid i).toNatClampNeg) (mid := mid); omega
set_option maxHeartbeats 4000000 in
set_option maxRecDepth 100000 in
theorem c_T_isTerm {sc : et_X} {h : Nat → et_MC} {d n : Nat} {wp md : Int32} {f : Nat → Int32} {sz : Nat} (hsz : sz ≤ 60) (h1 : h 1 = .inr (4, [.ref 2, .int (nI sz), .int md, .int wp])) (h2 : h 2 = .inl (0, 60, .inl f)) : et_Cn sc Y_T_isTerm (d + 4) [.ref 1] h n 0 0 (fun r h' n' => ((fwN f false false sz 0 1 0).1 = 0 ∧ r = .inl (some (.int 1)) ∧ n' = n ∧ h' = va_up h 1 (.inr (4, [.ref 2, .int (nI sz), .int (eI (fwN f false false sz 0 1 0).2), .int (wp)]))) ∨ ((fwN f false false sz 0 1 0).1 ≠ 0 ∧ r = .inl (some (.int 0)) ∧ n' = n ∧ h' = va_up h 1 (.inr (4, [.ref 2, .int (nI sz), .int (eI (fwN f false false sz 0 1 0).2), .int (eI (fwN f false false sz 0 1 0).1)])))) := by
  refine et_Cn.of 0 rfl rfl (by decide) mV_T_isTerm.1 ?_
  refine et_aload_n (i := 0) d_T_isTerm_0 rfl rfl ?_
  refine et_aload_n (i := 0) d_T_isTerm_1 rfl rfl ?_
  refine et_iconst (v := 0) d_T_isTerm_2 (by decide) ?_
  refine et_iconst (v := 0) d_T_isTerm_3 (by decide) ?_
  refine et_invV mV_T_firstWrong (As := [_, _]) rfl d_T_isTerm_4 lk_T_37 len_T_firstWrong h1 rfl (Nat.le_of_ble_eq_true rfl) (c_T_firstWrong (d := d) false false hsz h1 h2) (Nat.le_refl _) (Nat.le_of_ble_eq_true rfl) (Nat.le_of_ble_eq_true rfl) (fun v h' n' hp => ?_) (fun x h' n' hp => by cases hp.1)
  obtain ⟨hv, hn2, hh2⟩ := hp
  cases hv
  subst hh2
  replace hn2 := hn2.symm
  subst hn2
  have hb := fw_le (f := f) (two := false) (pat := false) (t := sz) (i := 0) (need := 1) (mid := 0)
  refine et_invV mV_T_noteWrong (As := [_]) rfl d_T_isTerm_7 lk_T_41 len_T_noteWrong rfl rfl (Nat.le_of_ble_eq_true rfl) (c_T_noteWrong2 (d := d) (fwN f false false sz 0 1 0).1 (by omega) rfl) (by omega) (Nat.le_of_ble_eq_true rfl) (Nat.le_of_ble_eq_true rfl) (fun v h' n' hp => ?_) (fun x h' n' hp => by rcases hp with ⟨-, e, -⟩ | ⟨-, e, -⟩ <;> cases e)
  rcases hp with ⟨e, hv, hn2, hh2⟩ | ⟨e, hv, hn2, hh2⟩
  · cases hv
    subst hh2
    exact et_zret d_T_isTerm_10 rfl rfl (Nat.le_of_ble_eq_true rfl) (Nat.le_of_ble_eq_true rfl) (Or.inl ⟨e, rfl, hn2, rfl⟩)
  · cases hv
    subst hh2
    exact et_zret d_T_isTerm_10 rfl rfl (Nat.le_of_ble_eq_true rfl) (Nat.le_of_ble_eq_true rfl) (Or.inr ⟨e, rfl, hn2, by rw [bx_uu]⟩)
set_option maxHeartbeats 4000000 in
set_option maxRecDepth 100000 in
theorem c_T_isEquation {sc : et_X} {h : Nat → et_MC} {d n : Nat} {wp md : Int32} {f : Nat → Int32} {sz : Nat} (hsz : sz ≤ 60) (h1 : h 1 = .inr (4, [.ref 2, .int (nI sz), .int md, .int wp])) (h2 : h 2 = .inl (0, 60, .inl f)) : et_Cn sc Y_T_isEquation (d + 4) [.ref 1] h n 0 0 (fun r h' n' => ((fwN f true false sz 0 1 0).1 = 0 ∧ r = .inl (some (.int 1)) ∧ n' = n ∧ h' = va_up h 1 (.inr (4, [.ref 2, .int (nI sz), .int (eI (fwN f true false sz 0 1 0).2), .int (wp)]))) ∨ ((fwN f true false sz 0 1 0).1 ≠ 0 ∧ r = .inl (some (.int 0)) ∧ n' = n ∧ h' = va_up h 1 (.inr (4, [.ref 2, .int (nI sz), .int (eI (fwN f true false sz 0 1 0).2), .int (eI (fwN f true false sz 0 1 0).1)])))) := by
  refine et_Cn.of 0 rfl rfl (by decide) mV_T_isEquation.1 ?_
  refine et_aload_n (i := 0) d_T_isEquation_0 rfl rfl ?_
  refine et_aload_n (i := 0) d_T_isEquation_1 rfl rfl ?_
  refine et_iconst (v := 1) d_T_isEquation_2 (by decide) ?_
  refine et_iconst (v := 0) d_T_isEquation_3 (by decide) ?_
  refine et_invV mV_T_firstWrong (As := [_, _]) rfl d_T_isEquation_4 lk_T_37 len_T_firstWrong h1 rfl (Nat.le_of_ble_eq_true rfl) (c_T_firstWrong (d := d) true false hsz h1 h2) (Nat.le_refl _) (Nat.le_of_ble_eq_true rfl) (Nat.le_of_ble_eq_true rfl) (fun v h' n' hp => ?_) (fun x h' n' hp => by cases hp.1)
  obtain ⟨hv, hn2, hh2⟩ := hp
  cases hv
  subst hh2
  replace hn2 := hn2.symm
  subst hn2
  have hb := fw_le (f := f) (two := true) (pat := false) (t := sz) (i := 0) (need := 1) (mid := 0)
  refine et_invV mV_T_noteWrong (As := [_]) rfl d_T_isEquation_7 lk_T_41 len_T_noteWrong rfl rfl (Nat.le_of_ble_eq_true rfl) (c_T_noteWrong2 (d := d) (fwN f true false sz 0 1 0).1 (by omega) rfl) (by omega) (Nat.le_of_ble_eq_true rfl) (Nat.le_of_ble_eq_true rfl) (fun v h' n' hp => ?_) (fun x h' n' hp => by rcases hp with ⟨-, e, -⟩ | ⟨-, e, -⟩ <;> cases e)
  rcases hp with ⟨e, hv, hn2, hh2⟩ | ⟨e, hv, hn2, hh2⟩
  · cases hv
    subst hh2
    exact et_zret d_T_isEquation_10 rfl rfl (Nat.le_of_ble_eq_true rfl) (Nat.le_of_ble_eq_true rfl) (Or.inl ⟨e, rfl, hn2, rfl⟩)
  · cases hv
    subst hh2
    exact et_zret d_T_isEquation_10 rfl rfl (Nat.le_of_ble_eq_true rfl) (Nat.le_of_ble_eq_true rfl) (Or.inr ⟨e, rfl, hn2, by rw [bx_uu]⟩)
set_option maxHeartbeats 4000000 in
set_option maxRecDepth 100000 in
theorem c_T_isRule {sc : et_X} {h : Nat → et_MC} {d n : Nat} {wp md : Int32} {f : Nat → Int32} {sz : Nat} (hsz : sz ≤ 60) (h1 : h 1 = .inr (4, [.ref 2, .int (nI sz), .int md, .int wp])) (h2 : h 2 = .inl (0, 60, .inl f)) : et_Cn sc Y_T_isRule (d + 4) [.ref 1] h n 0 0 (fun r h' n' => ((fwN f true true sz 0 1 0).1 = 0 ∧ r = .inl (some (.int 1)) ∧ n' = n ∧ h' = va_up h 1 (.inr (4, [.ref 2, .int (nI sz), .int (eI (fwN f true true sz 0 1 0).2), .int (wp)]))) ∨ ((fwN f true true sz 0 1 0).1 ≠ 0 ∧ r = .inl (some (.int 0)) ∧ n' = n ∧ h' = va_up h 1 (.inr (4, [.ref 2, .int (nI sz), .int (eI (fwN f true true sz 0 1 0).2), .int (eI (fwN f true true sz 0 1 0).1)])))) := by
  refine et_Cn.of 0 rfl rfl (by decide) mV_T_isRule.1 ?_
  refine et_aload_n (i := 0) d_T_isRule_0 rfl rfl ?_
  refine et_aload_n (i := 0) d_T_isRule_1 rfl rfl ?_
  refine et_iconst (v := 1) d_T_isRule_2 (by decide) ?_
  refine et_iconst (v := 1) d_T_isRule_3 (by decide) ?_
  refine et_invV mV_T_firstWrong (As := [_, _]) rfl d_T_isRule_4 lk_T_37 len_T_firstWrong h1 rfl (Nat.le_of_ble_eq_true rfl) (c_T_firstWrong (d := d) true true hsz h1 h2) (Nat.le_refl _) (Nat.le_of_ble_eq_true rfl) (Nat.le_of_ble_eq_true rfl) (fun v h' n' hp => ?_) (fun x h' n' hp => by cases hp.1)
  obtain ⟨hv, hn2, hh2⟩ := hp
  cases hv
  subst hh2
  replace hn2 := hn2.symm
  subst hn2
  have hb := fw_le (f := f) (two := true) (pat := true) (t := sz) (i := 0) (need := 1) (mid := 0)
  refine et_invV mV_T_noteWrong (As := [_]) rfl d_T_isRule_7 lk_T_41 len_T_noteWrong rfl rfl (Nat.le_of_ble_eq_true rfl) (c_T_noteWrong2 (d := d) (fwN f true true sz 0 1 0).1 (by omega) rfl) (by omega) (Nat.le_of_ble_eq_true rfl) (Nat.le_of_ble_eq_true rfl) (fun v h' n' hp => ?_) (fun x h' n' hp => by rcases hp with ⟨-, e, -⟩ | ⟨-, e, -⟩ <;> cases e)
  rcases hp with ⟨e, hv, hn2, hh2⟩ | ⟨e, hv, hn2, hh2⟩
  · cases hv
    subst hh2
    exact et_zret d_T_isRule_10 rfl rfl (Nat.le_of_ble_eq_true rfl) (Nat.le_of_ble_eq_true rfl) (Or.inl ⟨e, rfl, hn2, rfl⟩)
  · cases hv
    subst hh2
    exact et_zret d_T_isRule_10 rfl rfl (Nat.le_of_ble_eq_true rfl) (Nat.le_of_ble_eq_true rfl) (Or.inr ⟨e, rfl, hn2, by rw [bx_uu]⟩)
set_option maxHeartbeats 4000000 in
set_option maxRecDepth 100000 in
theorem c_E_demandTerm {sc : et_X} {h : Nat → et_MC} {d n : Nat} {rc wp md : Int32} {f : Nat → Int32} {sz : Nat} (hsz : sz ≤ 60) (f0 : h 0 = .inr (6, [.ref 1, .ref 3, .ref 10, .ref 13, .ref 17, .ref 63, .int rc])) (h1 : h 1 = .inr (4, [.ref 2, .int (nI sz), .int md, .int wp])) (h2 : h 2 = .inl (0, 60, .inl f)) : et_Cn sc Y_E_demandTerm (d + 5) [.ref 0] h n 1 6 (fun r h' n' => ((fwN f false false sz 0 1 0).1 = 0 ∧ r = .inl none ∧ n' = n ∧ h' = va_up h 1 (.inr (4, [.ref 2, .int (nI sz), .int (eI (fwN f false false sz 0 1 0).2), .int (wp)]))) ∨ ((fwN f false false sz 0 1 0).1 ≠ 0 ∧ r = .inr 0 ∧ n' = n + 1 ∧ h' = va_up (va_up h 1 (.inr (4, [.ref 2, .int (nI sz), .int (eI (fwN f false false sz 0 1 0).2), .int (eI (fwN f false false sz 0 1 0).1)]))) n et_void)) := by
  refine et_Cn.of 0 rfl rfl (by decide) mV_E_demandTerm.1 ?_
  refine et_aload_n (i := 0) d_E_demandTerm_0 rfl rfl ?_
  refine et_getf (ci := 6) 0 d_E_demandTerm_1 f0 rfl in_E (by decide) fl_E_10 rfl ?_
  refine et_invV mV_T_isTerm (As := []) rfl d_E_demandTerm_4 lk_E_189 len_T_isTerm h1 rfl (Nat.le_of_ble_eq_true rfl) (c_T_isTerm (d := d) hsz h1 h2) (Nat.le_refl _) (Nat.le_of_ble_eq_true rfl) (Nat.le_of_ble_eq_true rfl) (fun v h' n' hp => ?_) (fun x h' n' hp => by rcases hp with ⟨-, e, -⟩ | ⟨-, e, -⟩ <;> cases e)
  rcases hp with ⟨e, hv, hn2, hh2⟩ | ⟨e, hv, hn2, hh2⟩
  · cases hv
    subst hh2
    replace hn2 := hn2.symm
    subst hn2
    refine et_if_ne (tgt := 20) d_E_demandTerm_7 (by decide) (fun _ => ?_) (fun q => absurd q (by decide))
    exact et_vret d_E_demandTerm_20 rfl (Nat.le_of_ble_eq_true rfl) (Nat.le_of_ble_eq_true rfl) (Or.inl ⟨e, rfl, rfl, rfl⟩)
  · cases hv
    subst hh2
    replace hn2 := hn2.symm
    subst hn2
    refine et_if_ne (tgt := 20) d_E_demandTerm_7 (by decide) (fun q => absurd (by decide) q) (fun _ => ?_)
    exact et_throw (x := 0) "the text is no term" d_E_demandTerm_10 d_E_demandTerm_13 d_E_demandTerm_14 d_E_demandTerm_16 d_E_demandTerm_19 (by decide +kernel) cl_E_79 ini_IllegalArgumentException ins_IllegalArgumentException thr_0 (by decide +kernel) rfl (Nat.le_of_ble_eq_true rfl) (Nat.le_of_ble_eq_true rfl) (Nat.le_of_ble_eq_true rfl) (Or.inr ⟨e, rfl, rfl, rfl⟩)
set_option maxHeartbeats 4000000 in
set_option maxRecDepth 100000 in
theorem c_E_demandEquation {sc : et_X} {h : Nat → et_MC} {d n : Nat} {rc wp md : Int32} {f : Nat → Int32} {sz : Nat} (hsz : sz ≤ 60) (f0 : h 0 = .inr (6, [.ref 1, .ref 3, .ref 10, .ref 13, .ref 17, .ref 63, .int rc])) (h1 : h 1 = .inr (4, [.ref 2, .int (nI sz), .int md, .int wp])) (h2 : h 2 = .inl (0, 60, .inl f)) : et_Cn sc Y_E_demandEquation (d + 5) [.ref 0] h n 1 6 (fun r h' n' => ((fwN f true false sz 0 1 0).1 = 0 ∧ r = .inl none ∧ n' = n ∧ h' = va_up h 1 (.inr (4, [.ref 2, .int (nI sz), .int (eI (fwN f true false sz 0 1 0).2), .int (wp)]))) ∨ ((fwN f true false sz 0 1 0).1 ≠ 0 ∧ r = .inr 0 ∧ n' = n + 1 ∧ h' = va_up (va_up h 1 (.inr (4, [.ref 2, .int (nI sz), .int (eI (fwN f true false sz 0 1 0).2), .int (eI (fwN f true false sz 0 1 0).1)]))) n et_void)) := by
  refine et_Cn.of 0 rfl rfl (by decide) mV_E_demandEquation.1 ?_
  refine et_aload_n (i := 0) d_E_demandEquation_0 rfl rfl ?_
  refine et_getf (ci := 6) 0 d_E_demandEquation_1 f0 rfl in_E (by decide) fl_E_10 rfl ?_
  refine et_invV mV_T_isEquation (As := []) rfl d_E_demandEquation_4 lk_E_194 len_T_isEquation h1 rfl (Nat.le_of_ble_eq_true rfl) (c_T_isEquation (d := d) hsz h1 h2) (Nat.le_refl _) (Nat.le_of_ble_eq_true rfl) (Nat.le_of_ble_eq_true rfl) (fun v h' n' hp => ?_) (fun x h' n' hp => by rcases hp with ⟨-, e, -⟩ | ⟨-, e, -⟩ <;> cases e)
  rcases hp with ⟨e, hv, hn2, hh2⟩ | ⟨e, hv, hn2, hh2⟩
  · cases hv
    subst hh2
    replace hn2 := hn2.symm
    subst hn2
    refine et_if_ne (tgt := 20) d_E_demandEquation_7 (by decide) (fun _ => ?_) (fun q => absurd q (by decide))
    exact et_vret d_E_demandEquation_20 rfl (Nat.le_of_ble_eq_true rfl) (Nat.le_of_ble_eq_true rfl) (Or.inl ⟨e, rfl, rfl, rfl⟩)
  · cases hv
    subst hh2
    replace hn2 := hn2.symm
    subst hn2
    refine et_if_ne (tgt := 20) d_E_demandEquation_7 (by decide) (fun q => absurd (by decide) q) (fun _ => ?_)
    exact et_throw (x := 0) "the text is not two terms" d_E_demandEquation_10 d_E_demandEquation_13 d_E_demandEquation_14 d_E_demandEquation_16 d_E_demandEquation_19 (by decide +kernel) cl_E_79 ini_IllegalArgumentException ins_IllegalArgumentException thr_0 (by decide +kernel) rfl (Nat.le_of_ble_eq_true rfl) (Nat.le_of_ble_eq_true rfl) (Nat.le_of_ble_eq_true rfl) (Or.inr ⟨e, rfl, rfl, rfl⟩)
set_option maxHeartbeats 4000000 in
set_option maxRecDepth 100000 in
theorem c_E_takeTerm {sc : et_X} {h : Nat → et_MC} {d n : Nat} {f : Nat → Int32} {sz : Nat} {wp : Int32} {x : gx} (hn : 85 ≤ n) (hsz : sz ≤ 60) (hok : gG 40 x.1) (hc : et_EC f sz wp x h) : et_Cn sc Y_E_takeTerm (d + 6) [.ref 0] h n 1 6 (fun r h' n' => et_fr n h h' ∧ (((fwN f false false sz 0 1 0).1 ≠ 0 ∧ r = .inr 0 ∧ n' = n + 1 ∧ et_EC f sz (eI (fwN f false false sz 0 1 0).1) x h') ∨ ((fwN f false false sz 0 1 0).1 = 0 ∧ r = .inl (some (.int (eI (gLook x (sg f sz sz))))) ∧ gLook x (sg f sz sz) ≤ gC x.1 ∧ n' = n ∧ et_EC f 0 wp x h'))) := by
  refine et_Cn.of 1 rfl rfl (by decide) mV_E_takeTerm.1 ?_
  obtain ⟨⟨rc, f0⟩, ⟨md, h1⟩, h2, hg, h10, ⟨va, h11⟩, st, h12⟩ := hc
  refine et_aload_n (i := 0) d_E_takeTerm_0 rfl rfl ?_
  refine et_invV mV_E_demandTerm (As := []) rfl d_E_takeTerm_1 lk_E_94 len_E_demandTerm f0 rfl (Nat.le_of_ble_eq_true rfl) (c_E_demandTerm (d := d) hsz f0 h1 h2) (Nat.le_refl _) (Nat.le_of_ble_eq_true rfl) (Nat.le_of_ble_eq_true rfl) (fun v ha n' hp => ?_) (fun y h' n' hp => by
    rcases hp with ⟨-, e, -⟩ | ⟨e, e2, e3, e4⟩
    · cases e
    · subst e4
      exact ⟨rfl, fun k e1 e2' => by simp [va_up, show k ≠ 1 by omega, e2'], Or.inl ⟨e, e2, e3, ⟨rc, by simp [va_up, show (0 : Nat) ≠ n by omega]; exact f0⟩, ⟨_, by simp [va_up, show (1 : Nat) ≠ n by omega]; rfl⟩, by simp [va_up, show (2 : Nat) ≠ n by omega]; exact h2, (hg.same (fun k e1 e2 => by simp [va_up, show k ≠ 1 by omega, show k ≠ n by omega])), by simp [va_up, show (10 : Nat) ≠ n by omega]; exact h10, ⟨va, by simp [va_up, show (11 : Nat) ≠ n by omega]; exact h11⟩, st, by simp [va_up, show (12 : Nat) ≠ n by omega]; exact h12⟩⟩)
  rcases hp with ⟨eq0, hv, hn2, hh2⟩ | ⟨-, e, -⟩
  rotate_left
  · cases e
  cases hv
  replace hn2 := hn2.symm
  subst hn2
  subst hh2
  obtain ⟨mm, hw, hnv⟩ := fw_term eq0
  refine et_aload_n (i := 0) d_E_takeTerm_4 rfl rfl ?_
  refine et_getf (ci := 6) 2 d_E_takeTerm_5 f0 rfl in_E (by decide) fl_E_28 rfl ?_
  refine et_aload_n (i := 0) d_E_takeTerm_8 rfl rfl ?_
  refine et_getf (ci := 6) 0 d_E_takeTerm_9 f0 rfl in_E (by decide) fl_E_10 rfl ?_
  refine et_getf (ci := 4) 0 d_E_takeTerm_12 rfl rfl in_T (by decide) fl_E_68 rfl ?_
  refine et_iconst (v := 0) d_E_takeTerm_15 (by decide) ?_
  refine et_aload_n (i := 0) d_E_takeTerm_16 rfl rfl ?_
  refine et_getf (ci := 6) 0 d_E_takeTerm_17 f0 rfl in_E (by decide) fl_E_10 rfl ?_
  refine et_getf (ci := 4) 1 d_E_takeTerm_20 rfl rfl in_T (by decide) fl_E_62 rfl ?_
  refine et_iconst (v := 0) d_E_takeTerm_23 (by decide) ?_
  refine et_invV mV_K_classOf (As := [_, _, _, _]) rfl d_E_takeTerm_24 lk_E_103 len_K_classOf h10 rfl (Nat.le_of_ble_eq_true rfl) (c_K_classOf (d := d) (kr := 2) (len := 60) (row := f) (vs := fun _ => 0) false 0 sz hok.1 (hg.same (fun k e1 e2 => by simp [va_up, show k ≠ 1 by omega])) h10 h11 h12 h2 (Or.inl (by decide)) hsz (Nat.le_refl _) hw (fun i _ hi z => absurd z (hnv i hi))) (by omega) (Nat.le_of_ble_eq_true rfl) (Nat.le_of_ble_eq_true rfl) (fun v hb n' hp => ?_) (fun y h' n' hp => by rcases hp.2.2.2 with ⟨c, x', -, e, -⟩ | ⟨-, e, -⟩ <;> cases e)
  obtain ⟨hn2, fr1, ⟨st', s12⟩, hres⟩ := hp
  replace hn2 := hn2.symm
  subst hn2
  have g0 : hb 0 = .inr (6, [.ref 1, .ref 3, .ref 10, .ref 13, .ref 17, .ref 63, .int rc]) := (fr1 0 (by omega) (by omega)).trans f0
  have g1 : hb 1 = .inr (4, [.ref 2, .int (nI sz), .int (eI (fwN f false false sz 0 1 0).2), .int wp]) := fr1 1 (by omega) (by omega)
  have g2 : hb 2 = .inl (0, 60, .inl f) := (fr1 2 (by omega) (by omega)).trans h2
  have g10 : hb 10 = .inr (5, [.ref 11, .ref 3, .ref 12]) := (fr1 10 (by omega) (by omega)).trans h10
  have g11 : hb 11 = .inl (0, 3, .inl va) := (fr1 11 (by omega) (by omega)).trans h11
  have look : ∃ w, v = some (.int (eI w)) ∧ w = gLook x (sg f sz sz) ∧ w ≤ gC x.1 ∧ et_gh x hb := by
    rcases hres with ⟨c, x', e, hv, ok', hc', -, g'⟩ | ⟨e, hv, x', ⟨k, stk, e2⟩, -, -, g'⟩
    · have ex := gEval_look e
      subst ex
      exact ⟨c + 1, by rw [Sum.inl.inj hv, eI_s], by rw [Nat.sub_zero] at e; simp [gLook, e], hc', g'⟩
    · have ex := gEval_look e2
      subst ex
      exact ⟨0, by rw [Sum.inl.inj hv, eI_0], by rw [Nat.sub_zero] at e; simp [gLook, e], Nat.zero_le _, g'⟩
  obtain ⟨w, hv, hwl, hwc, g3⟩ := look
  subst hv
  refine et_istore_n (i := 1) (lv' := [_, _]) d_E_takeTerm_27 rfl (by decide) rfl rfl ?_
  refine et_aload_n (i := 0) d_E_takeTerm_28 rfl rfl ?_
  refine et_getf (ci := 6) 0 d_E_takeTerm_29 g0 rfl in_E (by decide) fl_E_10 rfl ?_
  refine et_invV mV_T_clear (As := []) rfl d_E_takeTerm_32 lk_E_65 len_T_clear g1 rfl (Nat.le_of_ble_eq_true rfl) (c_T_clear (d := d) g1) (by omega) (Nat.le_of_ble_eq_true rfl) (Nat.le_of_ble_eq_true rfl) (fun v h' n' hp => ?_) (fun x h' n' hp => by cases hp.1)
  obtain ⟨hv, hn2, hh2⟩ := hp
  cases hv
  subst hh2
  replace hn2 := hn2.symm
  subst hn2
  refine et_iload_n (i := 1) d_E_takeTerm_35 rfl rfl ?_
  exact et_iret d_E_takeTerm_36 rfl (Nat.le_of_ble_eq_true rfl) (Nat.le_of_ble_eq_true rfl) ⟨fun k e1 e2 => by simp only [va_up, if_neg (show k ≠ 1 by omega)]; rw [fr1 k (by omega) (by omega)]; simp [va_up, show k ≠ 1 by omega], Or.inr ⟨eq0, by rw [hwl], by rw [← hwl]; exact hwc, rfl, ⟨rc, g0⟩, ⟨_, rfl⟩, g2, g3.same (fun k e1 e2 => by simp [va_up, show k ≠ 1 by omega]), g10, ⟨va, g11⟩, st', s12⟩⟩
set_option maxHeartbeats 4000000 in
set_option maxRecDepth 100000 in
theorem c_E_members {sc : et_X} {h : Nat → et_MC} {d n : Nat} {f : Nat → Int32} {sz : Nat} {wp : Int32} {x : gx} (hn : 85 ≤ n) (hsz : sz ≤ 60) (hok : gG 40 x.1) (hc : et_EC f sz wp x h) : et_Cn sc Y_E_members (d + 7) [.ref 0] h n 1 6 (fun r h' n' => et_fr n h h' ∧ (((fwN f false false sz 0 1 0).1 ≠ 0 ∧ r = .inr 0 ∧ n' = n + 1 ∧ et_EC f sz (eI (fwN f false false sz 0 1 0).1) x h') ∨ ((fwN f false false sz 0 1 0).1 = 0 ∧ r = .inl (some (.int (if gLook x (sg f sz sz) = 0 then -1 else nI (gCnt x.1 (gLook x (sg f sz sz) - 1))))) ∧ n' = n ∧ et_EC f 0 wp x h'))) := by
  refine et_Cn.of 1 rfl rfl (by decide) mV_E_members.1 ?_
  obtain ⟨rc, f0⟩ := hc.1
  refine et_aload_n (i := 0) d_E_members_0 rfl rfl ?_
  refine et_invV mV_E_takeTerm (As := []) rfl d_E_members_1 lk_E_152 len_E_takeTerm f0 rfl (Nat.le_of_ble_eq_true rfl) (c_E_takeTerm (d := d) hn hsz hok hc) (Nat.le_refl _) (Nat.le_of_ble_eq_true rfl) (Nat.le_of_ble_eq_true rfl) (fun v ha n' hp => ?_) (fun y h' n' hp => ⟨rfl, hp.1, by rcases hp.2 with e | ⟨-, e, -⟩; exact Or.inl e; cases e⟩)
  obtain ⟨fr, hp⟩ := hp
  rcases hp with ⟨-, e, -⟩ | ⟨eq0, hv, hle, hn2, hc2⟩
  · cases e
  cases hv
  replace hn2 := hn2.symm
  subst hn2
  obtain ⟨⟨rc2, g0⟩, -, -, g3, -⟩ := id hc2
  obtain ⟨a4, a5, a6, a7, a8, a9, k3, -⟩ := id g3
  refine et_istore_n (i := 1) (lv' := [_, _]) d_E_members_4 rfl (by decide) rfl rfl ?_
  refine et_iload_n (i := 1) d_E_members_5 rfl rfl ?_
  refine et_iconst (v := (-1)) d_E_members_6 (by decide) ?_
  cases hw : gLook x (sg f sz sz) with
  | zero =>
    rw [eI_0]
    refine et_icmp_ne (tgt := 14) d_E_members_7 (by decide) (fun q => absurd rfl q) (fun _ => ?_)
    refine et_iconst (v := (-1)) d_E_members_10 (by decide) ?_
    refine et_goto (tgt := 22) d_E_members_11 (by decide) ?_
    exact et_iret d_E_members_22 rfl (Nat.le_of_ble_eq_true rfl) (Nat.le_of_ble_eq_true rfl) ⟨fr, Or.inr ⟨eq0, rfl, rfl, hc2⟩⟩
  | succ c =>
    have hcc : c < 2 ^ 31 := by rw [hw] at hle; have := hok.1.1; have := hok.1.2.1; omega
    rw [eI_s]
    refine et_icmp_ne (tgt := 14) d_E_members_7 (by decide) (fun _ => ?_) (fun q => absurd q (eI_ns hcc))
    refine et_aload_n (i := 0) d_E_members_14 rfl rfl ?_
    refine et_getf (ci := 6) 1 d_E_members_15 g0 rfl in_E (by decide) fl_E_19 rfl ?_
    refine et_iload_n (i := 1) d_E_members_18 rfl rfl ?_
    refine et_invV mV_G_sizeOf (As := [_]) rfl d_E_members_19 lk_E_156 len_G_sizeOf k3 rfl (Nat.le_of_ble_eq_true rfl) (c_G_sizeOf (d := d) c hcc hok.1 g3) (by omega) (Nat.le_of_ble_eq_true rfl) (Nat.le_of_ble_eq_true rfl) (fun v h' n' hp => ?_) (fun x h' n' hp => by cases hp.1)
    obtain ⟨hv, hn2, hh2⟩ := hp
    cases hv
    subst hh2
    replace hn2 := hn2.symm
    subst hn2
    exact et_iret d_E_members_22 rfl (Nat.le_of_ble_eq_true rfl) (Nat.le_of_ble_eq_true rfl) ⟨fr, Or.inr ⟨eq0, by rw [if_neg (by omega)]; rfl, rfl, hc2⟩⟩
