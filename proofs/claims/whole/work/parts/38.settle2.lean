/-! ===== Graph.renumber, Graph.settle ===== -/
/-- names of names that are none -/
def nmQ (q : Nat → Nat) (c : Nat) : Nat := match q c with
  | 0 => 4294967295
  | k + 1 => k
theorem nmQ_e (q : Nat → Nat) (c : Nat) : eI (q c) = nI (nmQ q c) := by
  unfold nmQ
  cases q c with
  | zero => decide +kernel
  | succ k => exact eI_s k
theorem nI_bv (v : Int32) : nI v.toBitVec.toNat = v := by
  apply Int32.toBitVec_inj.mp
  show BitVec.ofNat 32 v.toBitVec.toNat = v.toBitVec
  simp
/-- i nodes are through, cnt numbers are given -/
def rnI (g : gr) (i cnt : Nat) (q : Nat → Nat) : Prop := cnt ≤ i ∧ (∀ c, q c ≤ cnt) ∧ (∀ n, n < i → q (gH g n) ≠ 0) ∧ (∀ c, q c ≠ 0 → ∃ n, n < i ∧ gH g n = c) ∧ (∀ a b, q a = q b → q a ≠ 0 → a = b) ∧ ∀ v, v < cnt → ∃ n, n < i ∧ q (gH g n) = v + 1
theorem rn_0 (g : gr) : rnI g 0 0 (fun _ => 0) := ⟨Nat.le_refl _, fun _ => Nat.le_refl _, fun _ h => absurd h (Nat.not_lt_zero _), fun _ h => absurd rfl h, fun _ _ _ h => absurd rfl h, fun _ h => absurd h (Nat.not_lt_zero _)⟩
theorem rn_old {g : gr} {i cnt : Nat} {q : Nat → Nat} (I : rnI g i cnt q) (h : q (gH g i) ≠ 0) : rnI g (i + 1) cnt q := by
  obtain ⟨i1, i2, i3, i4, i5, i6⟩ := I
  refine ⟨by omega, i2, fun n hn => ?_, fun c hc => ?_, i5, fun v hv => ?_⟩
  · by_cases e : n = i
    · rw [e]; exact h
    · exact i3 n (by omega)
  · obtain ⟨n, h1, h2⟩ := i4 c hc
    exact ⟨n, by omega, h2⟩
  · obtain ⟨n, h1, h2⟩ := i6 v hv
    exact ⟨n, by omega, h2⟩
theorem rn_new {g : gr} {i cnt : Nat} {q : Nat → Nat} (I : rnI g i cnt q) (h : q (gH g i) = 0) : rnI g (i + 1) (cnt + 1) (gUp q (gH g i) (cnt + 1)) := by
  obtain ⟨i1, i2, i3, i4, i5, i6⟩ := I
  have hne : ∀ n, n < i → gH g n ≠ gH g i := fun n hn e => i3 n hn (by rw [e]; exact h)
  refine ⟨by omega, fun c => ?_, fun n hn => ?_, fun c hc => ?_, fun a b e h0 => ?_, fun v hv => ?_⟩
  · by_cases e : c = gH g i
    · rw [e, gUp_s]; exact Nat.le_refl _
    · rw [gUp_n _ _ e]; have := i2 c; omega
  · by_cases e : n = i
    · rw [e, gUp_s]; omega
    · rw [gUp_n _ _ (hne n (by omega))]; exact i3 n (by omega)
  · by_cases e : c = gH g i
    · exact ⟨i, by omega, e.symm⟩
    · rw [gUp_n _ _ e] at hc
      obtain ⟨n, h1, h2⟩ := i4 c hc
      exact ⟨n, by omega, h2⟩
  · by_cases ea : a = gH g i <;> by_cases eb : b = gH g i
    · rw [ea, eb]
    · rw [ea, gUp_s, gUp_n _ _ eb] at e
      have := i2 b
      omega
    · rw [eb, gUp_s, gUp_n _ _ ea] at e
      have := i2 a
      omega
    · rw [gUp_n _ _ ea, gUp_n _ _ eb] at e
      rw [gUp_n _ _ ea] at h0
      exact i5 a b e h0
  · by_cases e : v = cnt
    · exact ⟨i, by omega, by rw [gUp_s, e]⟩
    · obtain ⟨n, h1, h2⟩ := i6 v (by omega)
      exact ⟨n, by omega, by rw [gUp_n _ _ (hne n h1)]; exact h2⟩
theorem rn_end {g : gr} {cnt : Nat} {q : Nat → Nat} (I : rnI g (gN g) cnt q) : rnP g (nmQ q) cnt := by
  obtain ⟨i1, i2, i3, i4, i5, i6⟩ := I
  have hs : ∀ n, n < gN g → q (gH g n) = nmQ q (gH g n) + 1 := by
    intro n hn
    have := i3 n hn
    unfold nmQ
    cases e : q (gH g n) with
    | zero => exact absurd e this
    | succ k => rfl
  refine ⟨i1, fun n hn => ?_, fun n m hn hm e => ?_, fun c hc => ?_⟩
  · have := hs n hn
    have := i2 (gH g n)
    omega
  · exact i5 _ _ (by rw [hs n hn, hs m hm, e]) (i3 n hn)
  · obtain ⟨n, h1, h2⟩ := i6 c hc
    exact ⟨n, h1, by have := hs n h1; omega⟩
set_option maxHeartbeats 4000000 in
set_option maxRecDepth 100000 in
theorem c_G_renumber {sc : et_X} {h : Nat → et_MC} {d n : Nat} {x : gx} (ok : gBd 40 x.1) (hg : et_gh x h) : et_Cn sc Y_G_renumber (d + 1) [.ref 3] h n 0 0 (fun r h' n' => r = .inl none ∧ n' = n ∧ et_g9 h h' ∧ ∃ q cnt, rnP x.1 q cnt ∧ et_gh (gNum x.1 q cnt, fun c => c) h') := by
  refine et_Cn.of 2 rfl rfl (by decide) mV_G_renumber.1 ?_
  obtain ⟨a4, a5, a6, a7, a8, a9, h3, h4, h5, h6, h7, h8, h9, hA, hN⟩ := hg
  obtain ⟨o1, o2, o3⟩ := id ok
  have loop : ∀ (t i cnt : Nat) (q : Nat → Nat) (b9 : Nat → Int32), i + t = gN x.1 → rnI x.1 i cnt q → (∀ c, c < 40 → b9 c = eI (q c)) → et_M sc Y_G_renumber (d + 1) 0 0 (fun r h' n' => r = .inl none ∧ n' = n ∧ et_g9 h h' ∧ ∃ q cnt, rnP x.1 q cnt ∧ et_gh (gNum x.1 q cnt, fun c => c) h') 12 [some (.ref 3), some (.int (nI cnt)), some (.int (nI i))] [] (va_up h 9 (.inl (0, 40, .inl b9))) n 0 0 := by
    intro t
    induction t with
    | zero =>
      intro i cnt q b9 hi I hb
      obtain rfl : i = gN x.1 := by omega
      have P := rn_end I
      refine et_iload_n (i := 2) d_G_renumber_12 rfl rfl ?_
      refine et_aload_n (i := 0) d_G_renumber_13 rfl rfl ?_
      refine et_getf (ci := 1) 4 d_G_renumber_14 h3 rfl in_G (by decide) fl_G_24 rfl ?_
      refine et_icmp_ge (tgt := 56) d_G_renumber_17 (by decide) (fun _ => ?_) (fun q => absurd (nI_le (Nat.le_refl _) (by omega)) q)
      refine et_aload_n (i := 0) d_G_renumber_56 rfl rfl ?_
      refine et_getf (ci := 1) 7 d_G_renumber_57 h3 rfl in_G (by decide) fl_G_34 rfl ?_
      refine et_iconst (v := 0) d_G_renumber_60 (by decide) ?_
      refine et_aload_n (i := 0) d_G_renumber_61 rfl rfl ?_
      refine et_getf (ci := 1) 6 d_G_renumber_62 h3 rfl in_G (by decide) fl_G_31 rfl ?_
      refine et_iconst (v := 0) d_G_renumber_65 (by decide) ?_
      refine et_bipush (v := 40) d_G_renumber_66 (by decide) ?_
      refine et_copy (k0 := 9) (k1 := 8) (n0 := 40) (n1 := 40) d_G_renumber_68 ml_G_68 sy_nat sy_stat ini_System rfl h8 (by decide) (by decide) (by decide) (by decide) (by decide) (Nat.le_of_ble_eq_true rfl) ?_
      have hg2 : et_gh (x.1, nmQ q) (va_up (va_up h 9 (.inl (0, 40, .inl b9))) 8 (.inl (0, 40, .inl (va_cpy b9 a8 0 0 40)))) := by
        refine ⟨a4, a5, a6, a7, _, b9, h3, h4, h5, h6, h7, rfl, rfl, hA, fun c hc => ?_⟩
        have hc' : c < 40 := Nat.lt_of_lt_of_le hc o2
        show va_cpy b9 a8 0 0 40 c = _
        simp only [va_cpy]
        rw [if_pos ⟨Nat.zero_le _, by omega⟩]
        show b9 (0 + (c - 0)) = _
        rw [Nat.sub_zero, Nat.zero_add, hb c hc', nmQ_e]
      refine et_aload_n (i := 0) d_G_renumber_71 rfl rfl ?_
      refine et_invV mV_G_rename (As := []) rfl d_G_renumber_72 lk_G_48 len_G_rename h3 rfl (Nat.le_of_ble_eq_true rfl) (c_G_rename (d := d) (x := (x.1, nmQ q)) ok hg2) (Nat.le_refl _) (Nat.le_of_ble_eq_true rfl) (Nat.le_of_ble_eq_true rfl) (fun v h2 n' hp => ?_) (fun x h' n' hp => by cases hp.1)
      obtain ⟨hv, hn2, fr2, g2⟩ := hp
      cases hv
      replace hn2 := hn2.symm
      subst hn2
      obtain ⟨b4, b5, b6, b7, b8, c9, k3, k4, k5, k6, k7, k8, k9, kA, kN⟩ := g2
      refine et_aload_n (i := 0) d_G_renumber_75 rfl rfl ?_
      refine et_iload_n (i := 1) d_G_renumber_76 rfl rfl ?_
      refine et_putf (ci := 1) 5 d_G_renumber_77 k3 rfl in_G ty_G nm_G (by decide) fl_G_28 rfl rfl (fun _ => rfl) (fun _ => rfl) (Nat.le_of_ble_eq_true rfl) (fs' := [_, _, _, _, _, _, _, _]) rfl ?_
      refine et_aload_n (i := 0) d_G_renumber_80 rfl rfl ?_
      have hg3 : et_gh (gNum x.1 (nmQ q) cnt, fun c => (b8 c).toBitVec.toNat) (va_up h2 3 (.inr (1, [.ref 4, .ref 5, .ref 6, .ref 7, .int (nI (gN x.1)), .int (nI cnt), .ref 8, .ref 9]))) :=
        ⟨b4, b5, b6, b7, b8, c9, rfl, k4, k5, k6, k7, k8, k9, kA, fun c hc => (nI_bv _).symm⟩
      refine et_invV mV_G_nameAllByNumber (As := []) rfl d_G_renumber_81 lk_G_45 len_G_nameAllByNumber rfl rfl (Nat.le_of_ble_eq_true rfl) (c_G_nameAllByNumber (d := d) (x := (gNum x.1 (nmQ q) cnt, fun c => (b8 c).toBitVec.toNat)) (Nat.le_trans P.1 o1) hg3) (Nat.le_refl _) (Nat.le_of_ble_eq_true rfl) (Nat.le_of_ble_eq_true rfl) (fun v h4 n' hp => ?_) (fun x h' n' hp => by cases hp.1)
      obtain ⟨hv, hn2, fr3, g3⟩ := hp
      cases hv
      exact et_vret d_G_renumber_84 rfl (Nat.le_refl _) (Nat.le_refl _) ⟨rfl, hn2, fun k hk => by rw [fr3 k hk]; simp only [va_up, if_neg (show k ≠ 3 by omega)]; rw [fr2 k hk]; simp [va_up, show k ≠ 8 by omega, show k ≠ 9 by omega], _, _, P, g3⟩
    | succ t ih =>
      intro i cnt q b9 hi I hb
      have c7 := (o3 i (by omega)).1
      have e7 := (hA i (by omega)).2.2.2
      have c0 := I.1
      refine et_iload_n (i := 2) d_G_renumber_12 rfl rfl ?_
      refine et_aload_n (i := 0) d_G_renumber_13 rfl rfl ?_
      refine et_getf (ci := 1) 4 d_G_renumber_14 h3 rfl in_G (by decide) fl_G_24 rfl ?_
      refine et_icmp_ge (tgt := 56) d_G_renumber_17 (by decide) (fun q => absurd q (nI_ge (by omega) (by omega))) (fun _ => ?_)
      refine et_aload_n (i := 0) d_G_renumber_20 rfl rfl ?_
      refine et_getf (ci := 1) 7 d_G_renumber_21 h3 rfl in_G (by decide) fl_G_34 rfl ?_
      refine et_aload_n (i := 0) d_G_renumber_24 rfl rfl ?_
      refine et_getf (ci := 1) 3 d_G_renumber_25 h3 rfl in_G (by decide) fl_G_21 rfl ?_
      refine et_iload_n (i := 2) d_G_renumber_28 rfl rfl ?_
      refine et_ialn d_G_renumber_29 h7 (by omega) (by first | decide | omega) ?_
      rw [e7]
      refine et_ialn d_G_renumber_30 rfl (by omega) (by first | decide | omega) ?_
      refine et_iconst (v := (-1)) d_G_renumber_31 (by decide) ?_
      rw [hb _ (by omega)]
      refine et_icmp_ne (tgt := 50) d_G_renumber_32 (by decide) (fun q2 => ?_) (fun q2 => ?_)
      · have q3 : q (gH x.1 i) ≠ 0 := fun z => q2 (by rw [z, eI_0])
        refine et_iinc (lv' := [_, _, _]) d_G_renumber_50 rfl (v := nI (i + 1)) (nI_1 i) (by decide) rfl rfl ?_
        exact et_goto (tgt := 12) d_G_renumber_53 (by decide) (ih (i + 1) cnt q b9 (by omega) (rn_old I q3) hb)
      · have q3 : q (gH x.1 i) = 0 := (eI_none (by have := I.2.1 (gH x.1 i); omega)).mp q2
        refine et_aload_n (i := 0) d_G_renumber_35 rfl rfl ?_
        refine et_getf (ci := 1) 7 d_G_renumber_36 h3 rfl in_G (by decide) fl_G_34 rfl ?_
        refine et_aload_n (i := 0) d_G_renumber_39 rfl rfl ?_
        refine et_getf (ci := 1) 3 d_G_renumber_40 h3 rfl in_G (by decide) fl_G_21 rfl ?_
        refine et_iload_n (i := 2) d_G_renumber_43 rfl rfl ?_
        refine et_ialn d_G_renumber_44 h7 (by omega) (by first | decide | omega) ?_
        rw [e7]
        refine et_iload_n (i := 1) d_G_renumber_45 rfl rfl ?_
        refine et_iasn d_G_renumber_46 rfl (by omega) (by first | decide | omega) ?_
        refine et_iinc (lv' := [_, _, _]) d_G_renumber_47 rfl (v := nI (cnt + 1)) (nI_1 cnt) (by decide) rfl rfl ?_
        refine et_iinc (lv' := [_, _, _]) d_G_renumber_50 rfl (v := nI (i + 1)) (nI_1 i) (by decide) rfl rfl ?_
        refine et_goto (tgt := 12) d_G_renumber_53 (by decide) ?_
        rw [bx_uu]
        refine ih (i + 1) (cnt + 1) _ _ (by omega) (rn_new I q3) (fun c hc => ?_)
        by_cases e : c = gH x.1 i
        · rw [e, pk_us, gUp_s, eI_s]
        · rw [pk_un e, gUp_n _ _ e]
          exact hb c hc
  refine et_aload_n (i := 0) d_G_renumber_0 rfl rfl ?_
  refine et_getf (ci := 1) 7 d_G_renumber_1 h3 rfl in_G (by decide) fl_G_34 rfl ?_
  refine et_iconst (v := (-1)) d_G_renumber_4 (by decide) ?_
  refine et_invS mS_A_fill_II (As := [_, _]) rfl d_G_renumber_5 lk_G_62 len_A_fill_II (Nat.le_of_ble_eq_true rfl) (c_A_fill (N := 40) (by decide) h9) (Nat.le_refl _) (Nat.le_of_ble_eq_true rfl) (Nat.le_of_ble_eq_true rfl) (fun v h' n' hp => ?_) (fun x h' n' hp => by cases hp.1)
  obtain ⟨hv, hn2, g, rfl, hgv⟩ := hp
  cases hv
  replace hn2 := hn2.symm
  subst hn2
  refine et_iconst (v := 0) d_G_renumber_8 (by decide) ?_
  refine et_istore_n (i := 1) (lv' := [_, _, _]) d_G_renumber_9 rfl (by decide) rfl rfl ?_
  refine et_iconst (v := 0) d_G_renumber_10 (by decide) ?_
  refine et_istore_n (i := 2) (lv' := [_, _, _]) d_G_renumber_11 rfl (by decide) rfl rfl ?_
  exact loop (gN x.1) 0 0 _ g (by omega) (rn_0 x.1) (fun c hc => by rw [hgv c hc, eI_0])
set_option maxHeartbeats 4000000 in
set_option maxRecDepth 100000 in
theorem c_G_settle {sc : et_X} {h : Nat → et_MC} {d n : Nat} {x : gx} {P : Nat → Nat → Prop} (ok : gBd 40 x.1) (sur : gSur x.1) (nok : nOk x) (nid : nId x) (hP1 : ∀ a b, a < gC x.1 → b < gC x.1 → x.2 a = x.2 b → gCong x.1 P a b) (hP2 : ∀ a b, P a b → a < gC x.1 ∧ b < gC x.1 ∧ x.2 a = x.2 b) (hg : et_gh x h) : et_Cn sc Y_G_settle (d + 2) [.ref 3] h n 0 0 (fun r h' n' => r = .inl none ∧ n' = n ∧ et_g9 h h' ∧ ∃ g', gQuot x.1 P g' ∧ gOk 40 g' ∧ et_gh (g', fun c => c) h') := by
  refine et_Cn.of 1 rfl rfl (by decide) mV_G_settle.1 ?_
  have o1 := ok.1
  have fin : ∀ (y : gx) (p : Nat) (hh : Nat → et_MC), stI x.1 P y → gDis y.1 → et_gh y hh → et_g9 h hh → et_M sc Y_G_settle (d + 2) 0 0 (fun r h' n' => r = .inl none ∧ n' = n ∧ et_g9 h h' ∧ ∃ g', gQuot x.1 P g' ∧ gOk 40 g' ∧ et_gh (g', fun c => c) h') 29 [some (.ref 3), some (.int (nI p))] [] hh n 0 0 := by
    intro y p hh S dis g1 fr
    obtain ⟨a4, a5, a6, a7, a8, a9, h3, -⟩ := id g1
    refine et_aload_n (i := 0) d_G_settle_29 rfl rfl ?_
    refine et_invV mV_G_renumber (As := []) rfl d_G_settle_30 lk_G_55 len_G_renumber h3 rfl (Nat.le_of_ble_eq_true rfl) (c_G_renumber (d := d) S.2.2.1 g1) (Nat.le_refl _) (Nat.le_of_ble_eq_true rfl) (Nat.le_of_ble_eq_true rfl) (fun v h2 n' hp => ?_) (fun x h' n' hp => by cases hp.1)
    obtain ⟨hv, hn2, fr2, q, cnt, hq, g2⟩ := hp
    cases hv
    have Q := st_quot ok sur S dis hq
    refine et_vret d_G_settle_33 rfl (Nat.le_refl _) (Nat.le_refl _) ⟨rfl, hn2, fun k hk => (fr2 k hk).trans (fr k hk), _, Q, ?_, g2⟩
    refine ⟨Nat.le_trans S.2.1 o1, hq.1, fun k hk => ?_⟩
    have hk' : k < gN y.1 := hk
    obtain ⟨qq, r1, r2, r3, r4, -⟩ := Q
    obtain ⟨m0, hm0, u1, u2, u3, u4⟩ := r4 k hk
    obtain ⟨c1, c2, c3⟩ := ok.2.2 m0 hm0
    rw [u2, u3, u4]
    exact ⟨r1 _ c1, up_le r1 c2, up_le r1 c3⟩
  have loop : ∀ (t p : Nat) (y : gx) (hh : Nat → et_MC), p + t = 40 → gN y.1 + p ≤ gN x.1 → stI x.1 P y → et_gh y hh → et_g9 h hh → et_M sc Y_G_settle (d + 2) 0 0 (fun r h' n' => r = .inl none ∧ n' = n ∧ et_g9 h h' ∧ ∃ g', gQuot x.1 P g' ∧ gOk 40 g' ∧ et_gh (g', fun c => c) h') 6 [some (.ref 3), some (.int (nI p))] [] hh n 0 0 := by
    intro t
    induction t with
    | zero =>
      intro p y hh hp hN S g1 fr
      obtain rfl : p = 40 := by omega
      refine et_iload_n (i := 1) d_G_settle_6 rfl rfl ?_
      refine et_bipush (v := 40) d_G_settle_7 (by decide) ?_
      refine et_icmp_ge (tgt := 29) d_G_settle_9 (by decide) (fun _ => ?_) (fun q => absurd (by decide) q)
      exact fin y 40 hh S (fun a b ha => absurd ha (by omega)) g1 fr
    | succ t ih =>
      intro p y hh hp hN S g1 fr
      obtain ⟨a4, a5, a6, a7, a8, a9, h3, -⟩ := id g1
      refine et_iload_n (i := 1) d_G_settle_6 rfl rfl ?_
      refine et_bipush (v := 40) d_G_settle_7 (by decide) ?_
      refine et_icmp_ge (tgt := 29) d_G_settle_9 (by decide) (fun q => absurd q (show ¬ (40 : Int32) ≤ nI p from nI_ge (a := p) (b := 40) (by omega) (by decide))) (fun _ => ?_)
      refine et_aload_n (i := 0) d_G_settle_12 rfl rfl ?_
      refine et_invV mV_G_mergeTwins (As := []) rfl d_G_settle_13 lk_G_51 len_G_mergeTwins h3 rfl (Nat.le_of_ble_eq_true rfl) (c_G_mergeTwins (d := d) S.2.2.1 S.2.2.2.1 S.2.2.2.2.1 g1) (Nat.le_refl _) (Nat.le_of_ble_eq_true rfl) (Nat.le_of_ble_eq_true rfl) (fun v h2 n' hp => ?_) (fun x h' n' hp => by obtain ⟨-, -, k, y, -, -, e⟩ := hp; cases e)
      obtain ⟨hn2, fr2, k, z, I, g2, hv⟩ := hp
      cases hv
      replace hn2 := hn2.symm
      subst hn2
      obtain ⟨b4, b5, b6, b7, b8, b9, k3, -⟩ := id g2
      by_cases e : k < gN y.1
      · rw [if_pos e]
        refine et_if_eq (tgt := 29) d_G_settle_16 (by decide) (fun q => absurd q (by decide)) (fun _ => ?_)
        refine et_aload_n (i := 0) d_G_settle_19 rfl rfl ?_
        have bd : gBd 40 (gCut z k).1 := by
          refine ⟨Nat.le_trans I.2.2.1 S.2.2.1.1, by show gC z.1 ≤ 40; rw [I.2.1]; exact S.2.2.1.2.1, fun j hj => ?_⟩
          obtain ⟨q, hq, h1, h2⟩ := I.2.2.2.2.1 j hj
          show gH z.1 j < gC z.1 ∧ gL z.1 j ≤ gC z.1 ∧ gR z.1 j ≤ gC z.1
          rw [h2, h1.2.1, h1.2.2, I.2.1]
          exact S.2.2.1.2.2 q hq
        refine et_invV mV_G_rename (As := []) rfl d_G_settle_20 lk_G_48 len_G_rename k3 rfl (Nat.le_of_ble_eq_true rfl) (c_G_rename (d := d) bd g2) (by omega) (Nat.le_of_ble_eq_true rfl) (Nat.le_of_ble_eq_true rfl) (fun v h4 n' hp => ?_) (fun x h' n' hp => by cases hp.1)
        obtain ⟨hv, hn2, fr3, g3⟩ := hp
        cases hv
        replace hn2 := hn2.symm
        subst hn2
        refine et_iinc (lv' := [_, _]) d_G_settle_23 rfl (v := nI (p + 1)) (nI_1 p) (by decide) rfl rfl ?_
        refine et_goto (tgt := 6) d_G_settle_26 (by decide) ?_
        exact ih (p + 1) _ h4 (by omega) (by show k + (p + 1) ≤ _; omega) (st_step ok S I) g3 (fun k hk => ((fr3 k hk).trans (fr2 k hk)).trans (fr k hk))
      · rw [if_neg e]
        refine et_if_eq (tgt := 29) d_G_settle_16 (by decide) (fun _ => ?_) (fun q => absurd (by decide) q)
        obtain ⟨S2, D2⟩ := st_end ok S I e
        exact fin _ p h2 S2 D2 g2 (fun k hk => (fr2 k hk).trans (fr k hk))
  obtain ⟨a4, a5, a6, a7, a8, a9, h3, -⟩ := id hg
  refine et_aload_n (i := 0) d_G_settle_0 rfl rfl ?_
  refine et_invV mV_G_rename (As := []) rfl d_G_settle_1 lk_G_48 len_G_rename h3 rfl (Nat.le_of_ble_eq_true rfl) (c_G_rename (d := d) ok hg) (by omega) (Nat.le_of_ble_eq_true rfl) (Nat.le_of_ble_eq_true rfl) (fun v h2 n' hp => ?_) (fun x h' n' hp => by cases hp.1)
  obtain ⟨hv, hn2, fr2, g2⟩ := hp
  cases hv
  replace hn2 := hn2.symm
  subst hn2
  refine et_iconst (v := 0) d_G_settle_4 (by decide) ?_
  refine et_istore_n (i := 1) (lv' := [_, _]) d_G_settle_5 rfl (by decide) rfl rfl ?_
  exact loop 40 0 (gRen x) h2 (by omega) (Nat.le_refl _) (st_0 ok nok nid hP1 hP2) g2 fr2
