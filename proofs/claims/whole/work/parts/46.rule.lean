/-! ===== where the parts of a pattern begin; Rule ===== -/
theorem va_ne {α : Type} {h : Nat → α} {a b : Nat} {c : α} (e : a ≠ b) : va_up h b c a = h a := by simp [va_up, e]
theorem va_eq {α : Type} {h : Nat → α} {b : Nat} {c : α} : va_up h b c b = c := by simp [va_up]
/-- where the terms begin that stand in the last k places ahead of e -/
def stN (row : Nat → Int32) (e : Nat) : Nat → List Nat
  | 0 => []
  | k + 1 => (e - (k + 1)) :: (stN row e k).drop (pw (row (e - (k + 1))))
theorem stN_len {mm : Nat → Nat} {row : Nat → Int32} {fr e : Nat} (hw : wf mm row fr e) : ∀ k, k ≤ e - fr → (stN row e k).length = mm (e - k)
  | 0, _ => by rw [Nat.sub_zero, hw.2.2.1]; rfl
  | k + 1, hk => by
    have ih := stN_len hw k (by omega)
    obtain ⟨-, w2, w3⟩ := hw.2.2.2 (e - (k + 1)) (by omega) (by omega)
    rw [show e - (k + 1) + 1 = e - k by omega] at w2
    rw [stN, List.length_cons, List.length_drop, ih]
    omega
theorem stN_hd {row : Nat → Int32} {e k : Nat} (hk : k ≠ 0) : (stN row e k).getD 0 e = e - k := by
  cases k with
  | zero => exact absurd rfl hk
  | succ k => rfl
theorem stN_getD {row : Nat → Int32} {e k j : Nat} (hk : k ≠ 0) (hj : j ≠ 0) : (stN row e k).getD j e = (stN row e (k - 1)).getD (j - 1 + pw (row (e - k))) e := by
  cases k with
  | zero => exact absurd rfl hk
  | succ k =>
    cases j with
    | zero => exact absurd rfl hj
    | succ j =>
      rw [stN, Nat.add_sub_cancel, Nat.add_sub_cancel]
      simp only [List.getD_eq_getElem?_getD, List.getElem?_cons_succ, List.getElem?_drop]
      rw [Nat.add_comm]
set_option maxHeartbeats 4000000 in
set_option maxRecDepth 100000 in
theorem c_U_endOfPattern {sc : et_X} {h : Nat → et_MC} {d n : Nat} {row : Nat → Int32} {mm : Nat → Nat} {kr len fr e : Nat} (a : Nat) (hkr : h kr = .inl (0, len, .inl row)) (hlen : e < len) (hl60 : len ≤ 60) (hw : wf mm row fr e) (ha : fr ≤ a) (hae : a < e) : et_Cn sc Y_U_endOfPattern (d + 2) [.ref kr, .int (nI a)] h n 0 0 (fun r h' n' => r = .inl (some (.int (nI ((stN row e (e - a)).getD 1 e)))) ∧ n' = n ∧ h' = h) := by
  refine et_Cn.of 2 rfl rfl (by decide) mS_U_endOfPattern.1 ?_
  have loop : ∀ (t i ms : Nat), i + t = e → a ≤ i → ms ≤ mm i → (stN row e (e - i)).getD ms e = (stN row e (e - a)).getD 1 e → et_M sc Y_U_endOfPattern (d + 2) 0 0 (fun r h' n' => r = .inl (some (.int (nI ((stN row e (e - a)).getD 1 e)))) ∧ n' = n ∧ h' = h) 4 [some (.ref kr), some (.int (nI a)), some (.int (nI ms)), some (.int (nI i))] [] h n 0 0 := by
    have out : ∀ i ms, i ≤ e → ms = 0 → (stN row e (e - i)).getD ms e = (stN row e (e - a)).getD 1 e → et_M sc Y_U_endOfPattern (d + 2) 0 0 (fun r h' n' => r = .inl (some (.int (nI ((stN row e (e - a)).getD 1 e)))) ∧ n' = n ∧ h' = h) 4 [some (.ref kr), some (.int (nI a)), some (.int (nI ms)), some (.int (nI i))] [] h n 0 0 := by
      intro i ms hi h0 hT
      subst h0
      have hv : (stN row e (e - a)).getD 1 e = i := by
        rw [← hT]
        by_cases e0 : e - i = 0
        · rw [e0]; show e = i; omega
        · rw [stN_hd e0]; omega
      refine et_iload_n (i := 3) d_U_endOfPattern_4 rfl rfl ?_
      refine et_aload_n (i := 0) d_U_endOfPattern_5 rfl rfl ?_
      refine et_alen d_U_endOfPattern_6 hkr rfl ?_
      refine et_icmp_ge (tgt := 31) d_U_endOfPattern_7 (by decide) (fun q => absurd q (nI_ge (by omega) (by omega))) (fun _ => ?_)
      refine et_iload_n (i := 2) d_U_endOfPattern_10 rfl rfl ?_
      refine et_if_le (tgt := 31) d_U_endOfPattern_11 (by decide) (fun _ => ?_) (fun q => absurd (by decide) q)
      refine et_iload_n (i := 3) d_U_endOfPattern_31 rfl rfl ?_
      exact et_iret d_U_endOfPattern_32 rfl (Nat.le_of_ble_eq_true rfl) (Nat.le_of_ble_eq_true rfl) ⟨by rw [hv], rfl, rfl⟩
    intro t
    induction t with
    | zero =>
      intro i ms hi hai hms hT
      obtain rfl : i = e := by omega
      exact out i ms (Nat.le_refl _) (by rw [hw.2.2.1] at hms; omega) hT
    | succ t ih =>
      intro i ms hi hai hms hT
      by_cases m0 : ms = 0
      · exact out i ms (by omega) m0 hT
      obtain ⟨w1, w2, w3⟩ := hw.2.2.2 i (by omega) (by omega)
      have hb := wf_le hw (e - i) (by omega)
      rw [show e - (e - i) = i by omega] at hb
      refine et_iload_n (i := 3) d_U_endOfPattern_4 rfl rfl ?_
      refine et_aload_n (i := 0) d_U_endOfPattern_5 rfl rfl ?_
      refine et_alen d_U_endOfPattern_6 hkr rfl ?_
      refine et_icmp_ge (tgt := 31) d_U_endOfPattern_7 (by decide) (fun q => absurd q (nI_ge (by omega) (by omega))) (fun _ => ?_)
      refine et_iload_n (i := 2) d_U_endOfPattern_10 rfl rfl ?_
      refine et_if_le (tgt := 31) d_U_endOfPattern_11 (by decide) (fun q => absurd q (nI_nle (by omega) (by omega))) (fun _ => ?_)
      refine et_iload_n (i := 2) d_U_endOfPattern_14 rfl rfl ?_
      refine et_aload_n (i := 0) d_U_endOfPattern_15 rfl rfl ?_
      refine et_iload_n (i := 3) d_U_endOfPattern_16 rfl rfl ?_
      refine et_ialn d_U_endOfPattern_17 hkr (by omega) (by first | decide | omega) ?_
      refine et_invS mS_S_partsInPattern (As := [_]) rfl d_U_endOfPattern_18 lk_U_53 len_S_partsInPattern (Nat.le_of_ble_eq_true rfl) (c_S_partsInPattern (d := d) (row i)) (Nat.le_refl _) (Nat.le_of_ble_eq_true rfl) (Nat.le_of_ble_eq_true rfl) (fun v h' n' hp => ?_) (fun x h' n' hp => by cases hp.1)
      obtain ⟨hv, hn2, hh2⟩ := hp
      cases hv
      subst hh2
      replace hn2 := hn2.symm
      subst hn2
      refine et_iconst (v := 1) d_U_endOfPattern_21 (by decide) ?_
      refine et_isub d_U_endOfPattern_22 ?_
      refine et_iadd d_U_endOfPattern_23 ?_
      have p3 : et_pp (row i) = 0 ∨ et_pp (row i) = 1 ∨ et_pp (row i) = 2 := (et_pp_cases (row i)).resolve_left w1
      rw [nI_step m0 p3]
      refine et_istore_n (i := 2) (lv' := [_, _, _, _]) d_U_endOfPattern_24 rfl (by decide) rfl rfl ?_
      refine et_iinc (lv' := [_, _, _, _]) d_U_endOfPattern_25 rfl (v := nI (i + 1)) (nI_1 i) (by decide) rfl rfl ?_
      refine et_goto (tgt := 4) d_U_endOfPattern_28 (by decide) ?_
      refine ih (i + 1) (ms - 1 + pw (row i)) (by omega) (by omega) (by omega) ?_
      rw [← hT, stN_getD (k := e - i) (by omega) m0, show e - (e - i) = i by omega, show e - i - 1 = e - (i + 1) by omega]
  refine et_iconst (v := 1) d_U_endOfPattern_0 (by decide) ?_
  refine et_istore_n (i := 2) (lv' := [_, _, _, _]) d_U_endOfPattern_1 rfl (by decide) rfl rfl ?_
  refine et_iload_n (i := 1) d_U_endOfPattern_2 rfl rfl ?_
  refine et_istore_n (i := 3) (lv' := [_, _, _, _]) d_U_endOfPattern_3 rfl (by decide) rfl rfl ?_
  exact loop (e - a) a 1 (by omega) (Nat.le_refl _) (hw.2.2.2 a ha hae).2.2 rfl
section ETMM
variable {sc : et_X} {Y : et_Y} {d mc ms : Nat} {Post : et_R → (Nat → et_MC) → Nat → Prop} {pc : Nat} {lv : List (Option Value)} {st : List Value} {h : Nat → et_MC} {n nc ns : Nat}
theorem et_mmin {index : Nat} {x y : Int32} (hdg : decode Y.2.1 pc = .ok (.invokestatic index, 3)) (w1 : Cond.methodLink Y.1.cls index Lib.Math.min.name ∈ et_W) (hsum : (st.map fun v => v.category).sum ≤ 8) (h1 : nc ≤ mc) (h2 : ns ≤ ms) (k : et_M sc Y d mc ms Post (pc + 3) lv (.int (if y < x then y else x) :: st) h n nc ns) : et_M sc Y d mc ms Post pc lv (.int y :: .int x :: st) h n nc ns := by
  intro p l e R s m args below meth c B D dA ls H locs C hP hF hL hl
  have hcw : Cond.code Lib.Math.min.name Lib.Math.min.code 2 (some .int) ∈ et_W := mS_H_min.1
  exact va_mmin (rest := st.map (et_em B)) C.1 C.2.1 (C.2.2.1.trans hl.1.symm) C.own (C.hts _ w1) (C.hts _ mS_H_min.2.2.1) (C.hts _ mS_H_min.2.1) (C.hts _ hcw) (by rw [C.rm]; show 1 ≤ 8 + d; omega) (by rw [C.rm, et_sumc]; show _ ≤ 120 + 90 * d; omega) (by rw [C.rm]; exact h1) (by rw [C.rm]; exact h2) hdg (k p l e R s m args below meth c B D dA ls H locs C hP hF hL hl)
end ETMM
theorem et_minI {a b : Nat} (ha : a < 2 ^ 31) (hb : b < 2 ^ 31) : (if nI b < nI a then nI b else nI a) = nI (min a b) := by
  by_cases e : b < a
  · rw [if_pos (nI_lt e ha), Nat.min_eq_right (by omega)]
  · rw [if_neg (nI_nlt (by omega) hb), Nat.min_eq_left (by omega)]
theorem ml_A_304 : Cond.methodLink "java/util/Arrays" 304 Lib.Math.min.name ∈ et_W := et_in 425 (by decide +kernel) (by decide +kernel)
set_option maxHeartbeats 4000000 in
set_option maxRecDepth 100000 in
theorem c_A_copyOf {sc : et_X} {h : Nat → et_MC} {d n : Nat} {f : Nat → Int32} {k sz N : Nat} (hk : h k = .inl (0, N, .inl f)) (kn : k ≠ n) (hN : N ≤ 60) (hsz : sz < N) : et_Cn sc Y_A_copyOf (d + 1) [.ref k, .int (nI sz)] h n 1 60 (fun r h' n' => r = .inl (some (.ref n)) ∧ n' = n + 1 ∧ ∃ ch : Nat → Int32, (∀ i, i < sz → ch i = f i) ∧ h' = va_up h n (.inl (0, sz, .inl ch))) := by
  refine et_Cn.of 1 rfl rfl (by decide) mS_A_copyOf.1 ?_
  refine et_iload_n (i := 1) d_A_copyOf_0 rfl rfl ?_
  refine et_aload_n (i := 0) d_A_copyOf_1 rfl rfl ?_
  refine et_alen (v := nI N) d_A_copyOf_2 hk rfl ?_
  refine et_icmp_ne (tgt := 14) d_A_copyOf_3 (by decide) (fun _ => ?_) (fun q => absurd ((nI_eq (by omega) (by omega)).mp q) (by omega))
  refine et_iload_n (i := 1) d_A_copyOf_14 rfl rfl ?_
  refine et_newi (N := sz) d_A_copyOf_15 rfl ac_int (nI_pos (by omega)) (nI_clamp (by omega)) (by omega) (Nat.le_of_ble_eq_true rfl) (by omega) ?_
  refine et_astore_n (i := 2) (lv' := [_, _, _]) d_A_copyOf_17 rfl (by decide) rfl rfl ?_
  refine et_aload_n (i := 0) d_A_copyOf_18 rfl rfl ?_
  refine et_iconst (v := 0) d_A_copyOf_19 (by decide) ?_
  refine et_aload_n (i := 2) d_A_copyOf_20 rfl rfl ?_
  refine et_iconst (v := 0) d_A_copyOf_21 (by decide) ?_
  refine et_aload_n (i := 0) d_A_copyOf_22 rfl rfl ?_
  refine et_alen (v := nI N) d_A_copyOf_23 ((va_ne kn).trans hk) rfl ?_
  refine et_iload_n (i := 1) d_A_copyOf_24 rfl rfl ?_
  refine et_mmin d_A_copyOf_25 ml_A_304 (Nat.le_of_ble_eq_true rfl) (by omega) (by omega) ?_
  rw [et_minI (by omega) (by omega)]
  rw [Nat.min_eq_right (by omega)]
  refine et_copy (k0 := k) (k1 := n) (n0 := N) (n1 := sz) d_A_copyOf_28 ml_A_150 sy_nat sy_stat ini_System ((va_ne kn).trans hk) va_eq (by decide) (by decide) (nI_pos (by omega)) (by rw [nI_clamp (by omega)]; show 0 + sz ≤ N; omega) (by rw [nI_clamp (by omega)]; show 0 + sz ≤ sz; omega) (Nat.le_of_ble_eq_true rfl) ?_
  rw [bx_uu, nI_clamp (by omega)]
  refine et_aload_n (i := 2) d_A_copyOf_31 rfl rfl ?_
  refine et_aret d_A_copyOf_32 rfl (Or.inr ⟨_, rfl⟩) (by omega) (by omega) ⟨rfl, rfl, _, fun i hi => ?_, rfl⟩
  show va_cpy f (fun _ => 0) 0 0 sz i = f i
  simp only [va_cpy]
  rw [if_pos ⟨Nat.zero_le _, by omega⟩]
  congr 1
  omega
