/-! ===== rounds ===== -/
/-- t rounds are left, k have changed something: the answer, and the graph behind them -/
def rdsP (lim : Nat) (ru : Nat → prul) (rc : Nat) : Nat → Nat → gr → Int32 → gr → Prop
  | 0, k, g, v, g' => v = nI k ∧ g' = g
  | t + 1, k, g, v, g' => (rdFull lim g ru rc ∧ v = -2 ∧ g' = g) ∨ (rdStep lim g ru rc g' false ∧ v = nI k) ∨ ∃ g1, rdStep lim g ru rc g1 true ∧ rdsP lim ru rc t (k + 1) g1 v g'

set_option maxHeartbeats 4000000 in
set_option maxRecDepth 100000 in
theorem c_E_rounds {sc : et_X} {h : Nat → et_MC} {d n : Nat} {g : gr} {ru : Nat → prul} {kr : Nat → Nat} {rr : Nat → Option Nat} {rc : Nat} (x : Int32) (f0 : h 0 = .inr (6, [.ref 1, .ref 3, .ref 10, .ref 13, .ref 17, .ref 63, .int (nI rc)])) (G : gG 40 g) (hg : et_gh (gI g) h) (hO : et_RO h) (hP : et_RP rc ru kr rr h) : et_Cn sc Y_E_rounds (d + 13) [.ref 0, .int x] h n 1 6 (fun r h' n' => (¬ (0 ≤ x ∧ x ≤ 20) ∧ r = .inr 0 ∧ n' = n + 1 ∧ h' = va_up h n et_void) ∨ ((0 ≤ x ∧ x ≤ 20) ∧ n' = n ∧ (∀ q, (q < 3 ∨ q = 10 ∨ 16 < q) → h' q = h q) ∧ et_RO h' ∧ ∃ g' v, r = .inl (some (.int v)) ∧ rdsP 40 ru rc x.toNatClampNeg 0 g v g' ∧ gG 40 g' ∧ et_gh (gI g') h')) := by
  refine et_Cn.of 2 rfl rfl (by decide) mV_E_rounds.1 ?_
  refine et_iload_n (i := 1) d_E_rounds_0 rfl rfl ?_
  refine et_if_lt (tgt := 10) d_E_rounds_1 (by decide) (fun q1 => ?_) (fun q1 => ?_)
  · exact et_throw (x := 0) "no number of rounds" d_E_rounds_10 d_E_rounds_13 d_E_rounds_14 d_E_rounds_16 d_E_rounds_19 (by decide +kernel) cl_E_79 ini_IllegalArgumentException ins_IllegalArgumentException thr_0 (by decide +kernel) rfl (Nat.le_of_ble_eq_true rfl) (Nat.le_of_ble_eq_true rfl) (Nat.le_of_ble_eq_true rfl) (Or.inl ⟨fun z => absurd z.1 (Int32.not_le.mpr q1), rfl, rfl, rfl⟩)
  refine et_iload_n (i := 1) d_E_rounds_4 rfl rfl ?_
  refine et_bipush (v := 20) d_E_rounds_5 (by decide) ?_
  refine et_icmp_le (tgt := 20) d_E_rounds_7 (by decide) (fun q2 => ?_) (fun q2 => ?_)
  rotate_left
  · exact et_throw (x := 0) "no number of rounds" d_E_rounds_10 d_E_rounds_13 d_E_rounds_14 d_E_rounds_16 d_E_rounds_19 (by decide +kernel) cl_E_79 ini_IllegalArgumentException ins_IllegalArgumentException thr_0 (by decide +kernel) rfl (Nat.le_of_ble_eq_true rfl) (Nat.le_of_ble_eq_true rfl) (Nat.le_of_ble_eq_true rfl) (Or.inl ⟨fun z => q2 z.2, rfl, rfl, rfl⟩)
  obtain ⟨N, hN, hx⟩ : ∃ N : Nat, N ≤ 20 ∧ x = nI N := nI_of2 (M := 20) rfl q1 q2
  subst hx
  have hin : 0 ≤ nI N ∧ nI N ≤ 20 := ⟨Int32.not_lt.mp q1, q2⟩
  have loop : ∀ (t i : Nat) (gi : gr) (hh : Nat → et_MC), i + t = N → gG 40 gi → et_gh (gI gi) hh → et_RO hh → (∀ q, (q < 3 ∨ q = 10 ∨ 16 < q) → hh q = h q) → (∀ v g', rdsP 40 ru rc t i gi v g' → rdsP 40 ru rc N 0 g v g') → et_M sc Y_E_rounds (d + 13) 1 6 (fun r h' n' => (¬ (0 ≤ nI N ∧ nI N ≤ 20) ∧ r = .inr 0 ∧ n' = n + 1 ∧ h' = va_up h n et_void) ∨ ((0 ≤ nI N ∧ nI N ≤ 20) ∧ n' = n ∧ (∀ q, (q < 3 ∨ q = 10 ∨ 16 < q) → h' q = h q) ∧ et_RO h' ∧ ∃ g' v, r = .inl (some (.int v)) ∧ rdsP 40 ru rc (nI N).toNatClampNeg 0 g v g' ∧ gG 40 g' ∧ et_gh (gI g') h')) 24 [some (.ref 0), some (.int (nI N)), some (.int (nI i)), some (.int (nI i))] [] hh n 0 0 := by
    intro t
    induction t with
    | zero =>
      intro i gi hh hi Gi hgi hOi fr hall
      obtain rfl : i = N := by omega
      refine et_iload_n (i := 3) d_E_rounds_24 rfl rfl ?_
      refine et_iload_n (i := 1) d_E_rounds_25 rfl rfl ?_
      refine et_icmp_ge (tgt := 71) d_E_rounds_26 (by decide) (fun _ => ?_) (fun q => absurd (nI_le (Nat.le_refl _) (by omega)) q)
      refine et_iload_n (i := 2) d_E_rounds_71 rfl rfl ?_
      exact et_iret d_E_rounds_72 rfl (Nat.le_of_ble_eq_true rfl) (Nat.le_of_ble_eq_true rfl) (Or.inr ⟨hin, rfl, fr, hOi, gi, _, rfl, by rw [nI_clamp (by omega)]; exact hall _ _ ⟨rfl, rfl⟩, Gi, hgi⟩)
    | succ t ih =>
      intro i gi hh hi Gi hgi hOi fr hall
      have g0 := (fr 0 (by omega)).trans f0
      obtain ⟨ch, g13⟩ := hOi.2.2.2.1
      have hPi : et_RP rc ru kr rr hh := ⟨hP.1, (fr 63 (by omega)).trans hP.2.1, fun r hr => by
        obtain ⟨z1, z2, z3, z4⟩ := hP.2.2 r hr
        exact ⟨z1, z2, z3, z4.same z2 (fun q hq => fr q (by omega))⟩⟩
      refine et_iload_n (i := 3) d_E_rounds_24 rfl rfl ?_
      refine et_iload_n (i := 1) d_E_rounds_25 rfl rfl ?_
      refine et_icmp_ge (tgt := 71) d_E_rounds_26 (by decide) (fun q => absurd q (nI_ge (by omega) (by omega))) (fun _ => ?_)
      refine et_aload_n (i := 0) d_E_rounds_29 rfl rfl ?_
      refine et_getf (ci := 6) 3 d_E_rounds_30 g0 rfl in_E (by decide) fl_E_37 rfl ?_
      refine et_aload_n (i := 0) d_E_rounds_33 rfl rfl ?_
      refine et_getf (ci := 6) 5 d_E_rounds_34 g0 rfl in_E (by decide) fl_E_50 rfl ?_
      refine et_aload_n (i := 0) d_E_rounds_37 rfl rfl ?_
      refine et_getf (ci := 6) 6 d_E_rounds_38 g0 rfl in_E (by decide) fl_E_54 rfl ?_
      refine et_invV mV_R_fitAll (As := [_, _]) rfl d_E_rounds_41 lk_E_144 len_R_fitAll g13 rfl (Nat.le_of_ble_eq_true rfl) (c_R_fitAll (d := d) Gi hgi hOi hPi) (Nat.le_refl _) (Nat.le_of_ble_eq_true rfl) (Nat.le_of_ble_eq_true rfl) (fun v hb n' hp => ?_) (fun x h' n' hp => by rcases hp.2.2.2 with ⟨e, -⟩ | ⟨g, ch, e, -⟩ <;> cases e)
      obtain ⟨hn2, frb, hOb, hres⟩ := hp
      replace hn2 := hn2.symm
      subst hn2
      have frT : ∀ q, (q < 3 ∨ q = 10 ∨ 16 < q) → hb q = h q := fun q hq => (frb q hq).trans (fr q hq)
      rcases hres with ⟨hv, hF, gb⟩ | ⟨g', ch', hv, hS, G', gb, b13⟩
      · cases hv
        refine et_if_ne (tgt := 50) d_E_rounds_44 (by decide) (fun q => absurd (by decide) q) (fun _ => ?_)
        refine et_bipush (v := (-2)) d_E_rounds_47 (by decide) ?_
        exact et_iret d_E_rounds_49 rfl (Nat.le_of_ble_eq_true rfl) (Nat.le_of_ble_eq_true rfl) (Or.inr ⟨hin, rfl, frT, hOb, gi, _, rfl, by rw [nI_clamp (by omega)]; exact hall _ _ (Or.inl ⟨hF, rfl, rfl⟩), Gi, gb⟩)
      · cases hv
        refine et_if_ne (tgt := 50) d_E_rounds_44 (by decide) (fun _ => ?_) (fun q => absurd q (by decide))
        refine et_aload_n (i := 0) d_E_rounds_50 rfl rfl ?_
        refine et_getf (ci := 6) 3 d_E_rounds_51 ((frT 0 (by omega)).trans f0) rfl in_E (by decide) fl_E_37 rfl ?_
        refine et_getf (ci := 2) 0 d_E_rounds_54 b13 rfl in_R (by decide) fl_E_148 rfl ?_
        cases ch' with
        | false =>
          refine et_if_ne (tgt := 62) d_E_rounds_57 (by decide) (fun q => absurd rfl q) (fun _ => ?_)
          refine et_iload_n (i := 2) d_E_rounds_60 rfl rfl ?_
          exact et_iret d_E_rounds_61 rfl (Nat.le_of_ble_eq_true rfl) (Nat.le_of_ble_eq_true rfl) (Or.inr ⟨hin, rfl, frT, hOb, g', _, rfl, by rw [nI_clamp (by omega)]; exact hall _ _ (Or.inr (Or.inl ⟨hS, rfl⟩)), G', gb⟩)
        | true =>
          refine et_if_ne (tgt := 62) d_E_rounds_57 (by decide) (fun _ => ?_) (fun q => absurd q (by decide))
          refine et_iinc (lv' := [_, _, _, _]) d_E_rounds_62 rfl (v := nI (i + 1)) (nI_1 i) (by decide) rfl rfl ?_
          refine et_iinc (lv' := [_, _, _, _]) d_E_rounds_65 rfl (v := nI (i + 1)) (nI_1 i) (by decide) rfl rfl ?_
          refine et_goto (tgt := 24) d_E_rounds_68 (by decide) ?_
          exact ih (i + 1) g' hb (by omega) G' gb hOb frT (fun v g2 h2 => hall v g2 (Or.inr (Or.inr ⟨g', hS, h2⟩)))
  refine et_iconst (v := 0) d_E_rounds_20 (by decide) ?_
  refine et_istore_n (i := 2) (lv' := [_, _, _, _]) d_E_rounds_21 rfl (by decide) rfl rfl ?_
  refine et_iconst (v := 0) d_E_rounds_22 (by decide) ?_
  refine et_istore_n (i := 3) (lv' := [_, _, _, _]) d_E_rounds_23 rfl (by decide) rfl rfl ?_
  exact loop N 0 g h (by omega) G hg hO (fun _ _ => rfl) (fun _ _ h => h)
