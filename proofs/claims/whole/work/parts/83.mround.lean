set_option maxHeartbeats 4000000 in
set_option maxRecDepth 100000 in
theorem c_M_oneRound {sc : et_X} {h : Nat → et_MC} {d n : Nat} {th le a_ wr en al se rs : Int32} {dc ds : Int64} {g0 : gr} {ru : Nat → prul} {rc : Nat} {sd szs : Nat → Int32} (u : Bool) (G0 : gG 40 g0) (hR : et_MR rc ru sd szs) (h66 : h 66 = .inl (0, 84, .inl sd)) (h67 : h 67 = .inl (0, 12, .inl szs)) (h64 : h 64 = et_Mo th le a_ wr en al se (nI rc) (nI (gN g0)) (nI (gC g0)) (bI u) rs dc ds) (hg : et_mg (gI g0) h) (c73 : ∃ b, h 73 = .inl (0, 104, .inl b)) (c74 : ∃ b, h 74 = .inl (0, 62, .inl b)) (c75 : ∃ b, h 75 = .inl (0, 3, .inl b)) (c76 : ∃ b, h 76 = .inl (0, 128, .inl b)) (c77 : ∃ b, h 77 = .inl (0, 80, .inl b)) (c78 : ∃ b, h 78 = .inl (0, 4800, .inl b)) : et_Cn sc Y_M_oneRound (d + 5) [.ref 64] h n 0 0 (fun r0 h' n' => n' = n ∧ (∀ k, (k < 64 ∨ (64 < k ∧ k < 68) ∨ 78 < k) → h' k = h k) ∧ ((∃ b, h' 73 = .inl (0, 104, .inl b)) ∧ (∃ b, h' 74 = .inl (0, 62, .inl b)) ∧ (∃ b, h' 75 = .inl (0, 3, .inl b)) ∧ (∃ b, h' 76 = .inl (0, 128, .inl b)) ∧ (∃ b, h' 77 = .inl (0, 80, .inl b)) ∧ ∃ b, h' 78 = .inl (0, 4800, .inl b)) ∧ ∃ (u' : Bool) (rs' : Int32), ((mdFull g0 ru rc ∧ r0 = .inl (some (.int (-2))) ∧ h' 64 = et_Mo th le a_ wr en al se (nI rc) (nI (gN g0)) (nI (gC g0)) (bI u') rs' dc ds ∧ et_mg (gI g0) h') ∨ ∃ g' ch, mdStep g0 ru rc g' ch ∧ gG 40 g' ∧ r0 = .inl (some (.int (bI ch))) ∧ h' 64 = et_Mo th le a_ wr en al se (nI rc) (nI (gN g')) (nI (gC g')) (bI u') rs' dc ds ∧ et_mg (gI g') h')) := by
  refine et_Cn.of 3 rfl rfl (by decide) mV_M_oneRound.1 ?_
  obtain ⟨b73, h73⟩ := c73
  obtain ⟨b74, h74⟩ := c74
  obtain ⟨b75, h75⟩ := c75
  obtain ⟨f1, h76⟩ := c76
  obtain ⟨f2, h77⟩ := c77
  obtain ⟨f3, h78⟩ := c78
  have o1 := G0.1.1
  have o2 := G0.1.2.1
  have hro : rusOk ru rc := fun r hr => (hR.2 r hr).1
  have hrc := hR.1
  refine et_aload_n (i := 0) d_M_oneRound_0 rfl rfl ?_
  refine et_getf (ci := 7) 11 d_M_oneRound_1 h64 rfl in_M (by decide) fl_M_119 rfl ?_
  refine et_istore_n (i := 1) (lv' := [_, _, _, _]) d_M_oneRound_4 rfl (by decide) rfl rfl ?_
  refine et_aload_n (i := 0) d_M_oneRound_5 rfl rfl ?_
  refine et_getf (ci := 7) 12 d_M_oneRound_6 h64 rfl in_M (by decide) fl_M_126 rfl ?_
  refine et_istore_n (i := 2) (lv' := [_, _, _, _]) d_M_oneRound_9 rfl (by decide) rfl rfl ?_
  refine et_aload_n (i := 0) d_M_oneRound_10 rfl rfl ?_
  refine et_iconst (v := 0) d_M_oneRound_11 (by decide) ?_
  refine et_putf (ci := 7) 19 d_M_oneRound_12 h64 rfl in_M ty_M nm_M (by decide) fl_M_139 rfl rfl (fun _ => rfl) (fun _ => rfl) (Nat.le_of_ble_eq_true rfl) (fs' := [_, _, _, _, _, _, _, _, _, _, _, _, _, _, _, _, _, _, _, _, _, _, _, _, _, _, _, _, _, _, _, _, _]) rfl ?_
  refine et_aload_n (i := 0) d_M_oneRound_15 rfl rfl ?_
  refine et_invV mV_M_fillTables (As := []) rfl d_M_oneRound_16 lk_M_186 len_M_fillTables rfl rfl (Nat.le_of_ble_eq_true rfl) (c_M_fillTables (d := d + 2) (x := gI g0) G0 va_eq (hg.same (fun k a b => va_ne (by omega))) ((va_ne (by decide)).trans h76) ((va_ne (by decide)).trans h77) ((va_ne (by decide)).trans h78)) (Nat.le_refl _) (Nat.le_of_ble_eq_true rfl) (Nat.le_of_ble_eq_true rfl) (fun v h1 n' hp => ?_) (fun x h' n' hp => by cases hp.1)
  obtain ⟨hv, hn2, fr1, t76, t77, t78, k76, k77, k78, T⟩ := hp
  cases hv
  replace hn2 := hn2.symm
  subst hn2
  have fr2 : ∀ k, k ≠ 64 → (k < 76 ∨ 78 < k) → h1 k = h k := fun k hk hq => (fr1 k hq).trans (va_ne hk)
  have loop : ∀ (t r : Nat) (A : List gact) (y : gx) (ch : Bool) (rs1 : Int32) (b74 b75 : Nat → Int32) (hh : Nat → et_MC), r + t = rc → (∀ a ∈ A, okA g0 ru rc a) → runA 1000 A (gI g0, false) = some (y, ch) → rdI 1000 g0 y → gN y.1 ≤ 47 → hh 64 = et_Mo th le a_ wr en al se (nI rc) (nI (gN y.1)) (nI (gC y.1)) (bI ch) rs1 dc ds → et_mg y hh → hh 74 = .inl (0, 62, .inl b74) → hh 75 = .inl (0, 3, .inl b75) → hh 76 = .inl (0, 128, .inl t76) → hh 77 = .inl (0, 80, .inl t77) → hh 78 = .inl (0, 4800, .inl t78) → (∀ k, (k < 64 ∨ (64 < k ∧ k < 68) ∨ k = 73 ∨ 78 < k) → hh k = h k) → (40 < gN y.1 ∨ ∀ r', r' < r → ∀ a, okR g0 (ru r') a → ∃ a' ∈ A, sameA a a') → et_M sc Y_M_oneRound (d + 5) 0 0 (fun r0 h' n' => n' = n ∧ (∀ k, (k < 64 ∨ (64 < k ∧ k < 68) ∨ 78 < k) → h' k = h k) ∧ ((∃ b, h' 73 = .inl (0, 104, .inl b)) ∧ (∃ b, h' 74 = .inl (0, 62, .inl b)) ∧ (∃ b, h' 75 = .inl (0, 3, .inl b)) ∧ (∃ b, h' 76 = .inl (0, 128, .inl b)) ∧ (∃ b, h' 77 = .inl (0, 80, .inl b)) ∧ ∃ b, h' 78 = .inl (0, 4800, .inl b)) ∧ ∃ (u' : Bool) (rs' : Int32), ((mdFull g0 ru rc ∧ r0 = .inl (some (.int (-2))) ∧ h' 64 = et_Mo th le a_ wr en al se (nI rc) (nI (gN g0)) (nI (gC g0)) (bI u') rs' dc ds ∧ et_mg (gI g0) h') ∨ ∃ g' ch, mdStep g0 ru rc g' ch ∧ gG 40 g' ∧ r0 = .inl (some (.int (bI ch))) ∧ h' 64 = et_Mo th le a_ wr en al se (nI rc) (nI (gN g')) (nI (gC g')) (bI u') rs' dc ds ∧ et_mg (gI g') h')) 21 [some (.ref 64), some (.int (nI (gN g0))), some (.int (nI (gC g0))), some (.int (nI r))] [] hh n 0 0 := by
    intro t
    induction t with
    | zero =>
      intro r A y ch rs1 b74 b75 hh hr hok hrun I hN k64 g1 k74 k75 k76 k77 k78 fr dn
      obtain rfl : rc = r := by omega
      have k73 := (fr 73 (by omega)).trans h73
      refine et_iload_n (i := 3) d_M_oneRound_21 rfl rfl ?_
      refine et_aload_n (i := 0) d_M_oneRound_22 rfl rfl ?_
      refine et_getf (ci := 7) 8 d_M_oneRound_23 k64 rfl in_M (by decide) fl_M_113 rfl ?_
      refine et_icmp_ge (tgt := 41) d_M_oneRound_26 (by decide) (fun _ => ?_) (fun q => absurd (nI_le (Nat.le_refl _) (by omega)) q)
      refine et_aload_n (i := 0) d_M_oneRound_41 rfl rfl ?_
      refine et_getf (ci := 7) 11 d_M_oneRound_42 k64 rfl in_M (by decide) fl_M_119 rfl ?_
      refine et_bipush (v := 40) d_M_oneRound_45 (by decide) ?_
      refine et_icmp_le (tgt := 59) d_M_oneRound_47 (by decide) (fun q => ?_) (fun q => ?_)
      · have q2 : gN y.1 ≤ 40 := (nI_leI (b := 40) (by omega) (by omega)).mp q
        have dn := dn.resolve_left (by omega)
        have Gy := I.1.cut q2
        obtain ⟨s1, s2, s3, s4, s5, s6, s7, s8⟩ := runA_sem (Nat.le_refl 1000) A (gI g0, false) (y, ch) (gI_rd (G0.mono (by omega))) (fun a ha => okA_aOk hro (hok a ha)) hrun
        have hall : allA g0 ru rc A := ⟨hok, fun a ⟨r', hr', ha⟩ => dn r' hr' a ha⟩
        have fin : ∀ (ad : Int32) (ab : Bool), ad = bI ab → (ch = false → ab = false) → et_M sc Y_M_oneRound (d + 5) 0 0 (fun r0 h' n' => n' = n ∧ (∀ k, (k < 64 ∨ (64 < k ∧ k < 68) ∨ 78 < k) → h' k = h k) ∧ ((∃ b, h' 73 = .inl (0, 104, .inl b)) ∧ (∃ b, h' 74 = .inl (0, 62, .inl b)) ∧ (∃ b, h' 75 = .inl (0, 3, .inl b)) ∧ (∃ b, h' 76 = .inl (0, 128, .inl b)) ∧ (∃ b, h' 77 = .inl (0, 80, .inl b)) ∧ ∃ b, h' 78 = .inl (0, 4800, .inl b)) ∧ ∃ (u' : Bool) (rs' : Int32), ((mdFull g0 ru rc ∧ r0 = .inl (some (.int (-2))) ∧ h' 64 = et_Mo th le a_ wr en al se (nI rc) (nI (gN g0)) (nI (gC g0)) (bI u') rs' dc ds ∧ et_mg (gI g0) h') ∨ ∃ g' ch, mdStep g0 ru rc g' ch ∧ gG 40 g' ∧ r0 = .inl (some (.int (bI ch))) ∧ h' 64 = et_Mo th le a_ wr en al se (nI rc) (nI (gN g')) (nI (gC g')) (bI u') rs' dc ds ∧ et_mg (gI g') h')) 73 [some (.ref 64), some (.int (nI (gN g0))), some (.int (nI (gC g0))), some (.int ad)] [] hh n 0 0 := by
          intro ad ab had habf
          refine et_aload_n (i := 0) d_M_oneRound_73 rfl rfl ?_
          refine et_invV mV_M_close (As := []) rfl d_M_oneRound_74 lk_M_166 len_M_close k64 rfl (Nat.le_of_ble_eq_true rfl) (c_M_close (d := d + 3) (x0 := y) (P := PA A y.1) ch Gy.1.bd Gy.2.2.1 I.2.2.1 I.2.2.2 (fun a b ha hb hab => s5 (gCong y.1 (PA A y.1)) (gCong.eqv _ _) (fun u v _ _ z => by have z : u = v := z; subst z; exact (gCong.eqv _ _).1 _) (fun a ha b hb => gCong.sub _ _ ⟨a, ha, rfl, hb⟩) a b ha hb hab) (fun a b hab => by obtain ⟨a1, z1, z2, z3⟩ := hab; obtain ⟨b1, y1, y2, y3⟩ := s4 a1 z1; have := aTo_one y2 z3; subst this; subst z2; exact ⟨Nat.lt_of_lt_of_le (okA_aOk hro (hok a1 z1)).1 s2.2.1, y1, y3⟩) k64 g1 k73) (Nat.le_refl _) (Nat.le_of_ble_eq_true rfl) (Nat.le_of_ble_eq_true rfl) (fun v h2 n' hp => ?_) (fun x h' n' hp => by cases hp.1)
          obtain ⟨hv, hn2, fr2, g', u', Q, u1, u2, l64, g2, b9, l73⟩ := hp
          cases hv
          replace hn2 := hn2.symm
          subst hn2
          have hu : ch = u' := by
            cases ch with
            | true => exact (u1 rfl).symm
            | false =>
              obtain ⟨e1, e2⟩ := s6 rfl
              refine (u2 fun i j hij hj tw => ?_).symm
              have idn : ∀ c, c < gC y.1 → y.2 c = c := fun c hc => by
                have e1 : y.1 = g0 := e1
                rw [e1] at hc
                exact e2 c hc
              have uu : ∀ l, l ≤ gC y.1 → up y.2 l = l := fun l hl => (up_lt (τ := fun c => c) idn hl).trans (up_id l)
              obtain ⟨w1, w2, w3⟩ := tw
              obtain ⟨-, p2, p3⟩ := Gy.1.2.2 i (by omega)
              obtain ⟨-, p5, p6⟩ := Gy.1.2.2 j hj
              rw [uu _ p2, uu _ p5] at w2
              rw [uu _ p3, uu _ p6] at w3
              have := Gy.2.1 i j (by omega) hj w1 w2 w3
              omega
          have md : mdStep g0 ru rc g' ch := ⟨A, (y, ch), hall, hrun, q2, rfl, Q⟩
          have Gg := gQuot_g Q Gy
          have res : ∀ v : Int32, v = bI ch → ((fun r0 h' n' => n' = n ∧ (∀ k, (k < 64 ∨ (64 < k ∧ k < 68) ∨ 78 < k) → h' k = h k) ∧ ((∃ b, h' 73 = .inl (0, 104, .inl b)) ∧ (∃ b, h' 74 = .inl (0, 62, .inl b)) ∧ (∃ b, h' 75 = .inl (0, 3, .inl b)) ∧ (∃ b, h' 76 = .inl (0, 128, .inl b)) ∧ (∃ b, h' 77 = .inl (0, 80, .inl b)) ∧ ∃ b, h' 78 = .inl (0, 4800, .inl b)) ∧ ∃ (u' : Bool) (rs' : Int32), ((mdFull g0 ru rc ∧ r0 = .inl (some (.int (-2))) ∧ h' 64 = et_Mo th le a_ wr en al se (nI rc) (nI (gN g0)) (nI (gC g0)) (bI u') rs' dc ds ∧ et_mg (gI g0) h') ∨ ∃ g' ch, mdStep g0 ru rc g' ch ∧ gG 40 g' ∧ r0 = .inl (some (.int (bI ch))) ∧ h' 64 = et_Mo th le a_ wr en al se (nI rc) (nI (gN g')) (nI (gC g')) (bI u') rs' dc ds ∧ et_mg (gI g') h')) : et_R → (Nat → et_MC) → Nat → Prop) (.inl (some (.int v))) h2 n := fun v hv => ⟨rfl, fun k hk => (fr2 k (by omega)).trans (fr k (by omega)), ⟨⟨_, l73⟩, ⟨_, (fr2 74 (by omega)).trans k74⟩, ⟨_, (fr2 75 (by omega)).trans k75⟩, ⟨_, (fr2 76 (by omega)).trans k76⟩, ⟨_, (fr2 77 (by omega)).trans k77⟩, _, (fr2 78 (by omega)).trans k78⟩, u', _, Or.inr ⟨g', ch, md, Gg, by rw [hv], l64, g2⟩⟩
          subst hu
          refine et_iload_n (i := 3) d_M_oneRound_77 rfl rfl ?_
          cases ab with
          | true =>
            subst had
            have hch : ch = true := by
              cases ch with
              | true => rfl
              | false => exact absurd (habf rfl) (by decide)
            refine et_if_ne (tgt := 88) d_M_oneRound_78 (by decide) (fun _ => ?_) (fun q => absurd q (by decide))
            refine et_iconst (v := 1) d_M_oneRound_88 (by decide) ?_
            refine et_goto (tgt := 93) d_M_oneRound_89 (by decide) ?_
            exact et_iret d_M_oneRound_93 rfl (Nat.le_refl _) (Nat.le_refl _) (res 1 (by rw [hch]; rfl))
          | false =>
            subst had
            refine et_if_ne (tgt := 88) d_M_oneRound_78 (by decide) (fun q => absurd rfl q) (fun _ => ?_)
            refine et_aload_n (i := 0) d_M_oneRound_81 rfl rfl ?_
            refine et_getf (ci := 7) 19 d_M_oneRound_82 l64 rfl in_M (by decide) fl_M_139 rfl ?_
            cases ch with
            | true =>
              refine et_if_eq (tgt := 92) d_M_oneRound_85 (by decide) (fun q => absurd q (by decide)) (fun _ => ?_)
              refine et_iconst (v := 1) d_M_oneRound_88 (by decide) ?_
              refine et_goto (tgt := 93) d_M_oneRound_89 (by decide) ?_
              exact et_iret d_M_oneRound_93 rfl (Nat.le_refl _) (Nat.le_refl _) (res _ rfl)
            | false =>
              refine et_if_eq (tgt := 92) d_M_oneRound_85 (by decide) (fun _ => ?_) (fun q => absurd rfl q)
              refine et_iconst (v := 0) d_M_oneRound_92 (by decide) ?_
              exact et_iret d_M_oneRound_93 rfl (Nat.le_refl _) (Nat.le_refl _) (res _ rfl)
        refine et_aload_n (i := 0) d_M_oneRound_59 rfl rfl ?_
        refine et_getf (ci := 7) 11 d_M_oneRound_60 k64 rfl in_M (by decide) fl_M_119 rfl ?_
        refine et_iload_n (i := 1) d_M_oneRound_63 rfl rfl ?_
        refine et_icmp_le (tgt := 71) d_M_oneRound_64 (by decide) (fun p => ?_) (fun p => ?_)
        · refine et_iconst (v := 0) d_M_oneRound_71 (by decide) ?_
          refine et_istore_n (i := 3) (lv' := [_, _, _, _]) d_M_oneRound_72 rfl (by decide) rfl rfl ?_
          exact fin _ false rfl (fun _ => rfl)
        · refine et_iconst (v := 1) d_M_oneRound_67 (by decide) ?_
          refine et_goto (tgt := 72) d_M_oneRound_68 (by decide) ?_
          refine et_istore_n (i := 3) (lv' := [_, _, _, _]) d_M_oneRound_72 rfl (by decide) rfl rfl ?_
          refine fin _ true rfl (fun z => ?_)
          obtain ⟨e1, -⟩ := s6 z
          have e1 : y.1 = g0 := e1
          exact absurd (nI_le (by rw [e1]; exact Nat.le_refl _) (by omega)) p
      · have q2 : 40 < gN y.1 := Nat.lt_of_not_le fun z => q ((nI_leI (b := 40) (by omega) (by omega)).mpr z)
        refine et_aload_n (i := 0) d_M_oneRound_50 rfl rfl ?_
        refine et_iload_n (i := 1) d_M_oneRound_51 rfl rfl ?_
        refine et_iload_n (i := 2) d_M_oneRound_52 rfl rfl ?_
        refine et_invV mV_M_cut (As := [_, _]) rfl d_M_oneRound_53 lk_M_163 len_M_cut k64 rfl (Nat.le_of_ble_eq_true rfl) (c_M_cut (d := d + 4) (x := y) g0 (by omega) I.2.1 k64 g1) (Nat.le_refl _) (Nat.le_of_ble_eq_true rfl) (Nat.le_of_ble_eq_true rfl) (fun v h2 n' hp => ?_) (fun x h' n' hp => by cases hp.1)
        obtain ⟨hv, hn2, fr2, l64, g2⟩ := hp
        cases hv
        replace hn2 := hn2.symm
        subst hn2
        refine et_bipush (v := (-2)) d_M_oneRound_56 (by decide) ?_
        exact et_iret d_M_oneRound_58 rfl (Nat.le_refl _) (Nat.le_refl _) ⟨rfl, fun k hk => (fr2 k (by omega) (by omega)).trans (fr k (by omega)), ⟨⟨_, (fr2 73 (by decide) (by decide)).trans k73⟩, ⟨_, (fr2 74 (by decide) (by decide)).trans k74⟩, ⟨_, (fr2 75 (by decide) (by decide)).trans k75⟩, ⟨_, (fr2 76 (by decide) (by decide)).trans k76⟩, ⟨_, (fr2 77 (by decide) (by decide)).trans k77⟩, _, (fr2 78 (by decide) (by decide)).trans k78⟩, _, _, Or.inl ⟨⟨A, (y, ch), hok, hrun, q2⟩, rfl, l64, g2⟩⟩
    | succ t ih =>
      intro r A y ch rs1 b74 b75 hh hr hok hrun I hN k64 g1 k74 k75 k76 k77 k78 fr dn
      refine et_iload_n (i := 3) d_M_oneRound_21 rfl rfl ?_
      refine et_aload_n (i := 0) d_M_oneRound_22 rfl rfl ?_
      refine et_getf (ci := 7) 8 d_M_oneRound_23 k64 rfl in_M (by decide) fl_M_113 rfl ?_
      refine et_icmp_ge (tgt := 41) d_M_oneRound_26 (by decide) (fun q => absurd q (nI_ge (by omega) (by omega))) (fun _ => ?_)
      refine et_aload_n (i := 0) d_M_oneRound_29 rfl rfl ?_
      refine et_iload_n (i := 3) d_M_oneRound_30 rfl rfl ?_
      refine et_iload_n (i := 2) d_M_oneRound_31 rfl rfl ?_
      refine et_invV mV_M_fit (As := [_, _]) rfl d_M_oneRound_32 lk_M_189 len_M_fit k64 rfl (Nat.le_of_ble_eq_true rfl) (c_M_fit (d := d) r (by omega) G0 hR ((fr 66 (by omega)).trans h66) ((fr 67 (by omega)).trans h67) k76 k77 k78 T y ch I hN k64 g1 k74 k75) (Nat.le_refl _) (Nat.le_of_ble_eq_true rfl) (Nat.le_of_ble_eq_true rfl) (fun v h2 n' hp => ?_) (fun x h' n' hp => by cases hp.1)
      obtain ⟨hv, hn2, fr2, A2, y2, ch2, rs2, p1, p2, p3, p4, l64, g2, ⟨b1, l74⟩, ⟨b2, l75⟩, p5⟩ := hp
      cases hv
      replace hn2 := hn2.symm
      subst hn2
      refine et_iinc (lv' := [_, _, _, _]) d_M_oneRound_35 rfl (v := nI (r + 1)) (nI_1 r) (by decide) rfl rfl ?_
      refine et_goto (tgt := 21) d_M_oneRound_38 (by decide) ?_
      have le2 : gN y.1 ≤ gN y2.1 := (runA_sem (Nat.le_refl 1000) A2 (y, ch) (y2, ch2) I (fun a ha => okA_aOk hro (okR_okA (by omega) (p1 a ha))) p2).2.1.1
      refine ih (r + 1) (A ++ A2) y2 ch2 rs2 b1 b2 h2 (by omega) (fun a ha => ?_) ((runA_app hrun).trans p2) p3 p4 l64 g2 l74 l75 ((fr2 76 (by omega)).trans k76) ((fr2 77 (by omega)).trans k77) ((fr2 78 (by omega)).trans k78) (fun k hk => (fr2 k (by omega)).trans (fr k hk)) ?_
      · rcases List.mem_append.mp ha with z | z
        · exact hok a z
        · exact okR_okA (by omega) (p1 a z)
      · by_cases z : 40 < gN y2.1
        · exact Or.inl z
        · refine Or.inr fun r' hr' a ha => ?_
          have dn := dn.resolve_left (by omega)
          have p5 := p5.resolve_left z
          by_cases e : r' = r
          · subst e
            obtain ⟨a', k1, k2⟩ := p5 a ha
            exact ⟨a', List.mem_append.mpr (Or.inr k1), k2⟩
          · obtain ⟨a', k1, k2⟩ := dn r' (by omega) a ha
            exact ⟨a', List.mem_append.mpr (Or.inl k1), k2⟩
  refine et_iconst (v := nI 0) d_M_oneRound_19 (by decide) ?_
  refine et_istore_n (i := 3) (lv' := [_, _, _, _]) d_M_oneRound_20 rfl (by decide) rfl rfl ?_
  exact loop rc 0 [] (gI g0) false rs b74 b75 h1 (by omega) (fun a ha => by cases ha) rfl (gI_rd (G0.mono (by omega))) (by show gN g0 ≤ 47; omega) ((fr1 64 (by omega)).trans va_eq) (hg.same (fun k a b => fr2 k (by omega) (by omega))) ((fr2 74 (by decide) (by decide)).trans h74) ((fr2 75 (by decide) (by decide)).trans h75) k76 k77 k78 (fun k hk => fr2 k (by omega) (by omega)) (Or.inr fun r' hr' => absurd hr' (Nat.not_lt_zero _))
set_option maxHeartbeats 4000000 in
set_option maxRecDepth 100000 in
theorem c_M_rounds {sc : et_X} {h : Nat → et_MC} {d n : Nat} {th le a_ wr en al se rs : Int32} {dc ds : Int64} {g0 : gr} {ru : Nat → prul} {rc : Nat} {sd szs : Nat → Int32} (x : Int32) (u : Bool) (G0 : gG 40 g0) (hR : et_MR rc ru sd szs) (h66 : h 66 = .inl (0, 84, .inl sd)) (h67 : h 67 = .inl (0, 12, .inl szs)) (h64 : h 64 = et_Mo th le a_ wr en al se (nI rc) (nI (gN g0)) (nI (gC g0)) (bI u) rs dc ds) (hg : et_mg (gI g0) h) (c73 : ∃ b, h 73 = .inl (0, 104, .inl b)) (c74 : ∃ b, h 74 = .inl (0, 62, .inl b)) (c75 : ∃ b, h 75 = .inl (0, 3, .inl b)) (c76 : ∃ b, h 76 = .inl (0, 128, .inl b)) (c77 : ∃ b, h 77 = .inl (0, 80, .inl b)) (c78 : ∃ b, h 78 = .inl (0, 4800, .inl b)) : et_Cn sc Y_M_rounds (d + 6) [.ref 64, .int x] h n 0 0 (fun r0 h' n' => n' = n ∧ (∀ k, (k < 64 ∨ (64 < k ∧ k < 68) ∨ 78 < k) → h' k = h k) ∧ ((∃ b, h' 73 = .inl (0, 104, .inl b)) ∧ (∃ b, h' 74 = .inl (0, 62, .inl b)) ∧ (∃ b, h' 75 = .inl (0, 3, .inl b)) ∧ (∃ b, h' 76 = .inl (0, 128, .inl b)) ∧ (∃ b, h' 77 = .inl (0, 80, .inl b)) ∧ ∃ b, h' 78 = .inl (0, 4800, .inl b)) ∧ ∃ (u' : Bool) (rs' : Int32), ((¬ (0 ≤ x ∧ x ≤ 20) ∧ r0 = .inl (some (.int 0)) ∧ h' 64 = et_Mo 1 le a_ wr en al se (nI rc) (nI (gN g0)) (nI (gC g0)) (bI u') rs' dc ds ∧ et_mg (gI g0) h') ∨ ((0 ≤ x ∧ x ≤ 20) ∧ ∃ g' v, mdsP ru rc x.toNatClampNeg 0 g0 v g' ∧ gG 40 g' ∧ r0 = .inl (some (.int v)) ∧ h' 64 = et_Mo 0 le a_ wr en al se (nI rc) (nI (gN g')) (nI (gC g')) (bI u') rs' dc ds ∧ et_mg (gI g') h'))) := by
  refine et_Cn.of 2 rfl rfl (by decide) mV_M_rounds.1 ?_
  refine et_aload_n (i := 0) d_M_rounds_0 rfl rfl ?_
  refine et_iload_n (i := 1) d_M_rounds_1 rfl rfl ?_
  refine et_iconst (v := 0) d_M_rounds_2 (by decide) ?_
  refine et_bipush (v := 20) d_M_rounds_3 (by decide) ?_
  refine et_invS mS_M_within (As := [_, _, _]) rfl d_M_rounds_5 lk_M_75 len_M_within (Nat.le_of_ble_eq_true rfl) (c_M_within (d := d + 5) x 0 20) (Nat.le_refl _) (Nat.le_of_ble_eq_true rfl) (Nat.le_of_ble_eq_true rfl) (fun v h' n' hp => ?_) (fun x h' n' hp => by cases hp.1)
  obtain ⟨hv, hn2, hh2⟩ := hp
  cases hv
  replace hh2 := hh2.symm
  subst hh2
  replace hn2 := hn2.symm
  subst hn2
  by_cases z : 0 ≤ x ∧ x ≤ 20
  · rw [if_pos z]
    refine et_if_eq (tgt := 15) d_M_rounds_8 (by decide) (fun q => absurd q (by decide)) (fun _ => ?_)
    refine et_iconst (v := 0) d_M_rounds_11 (by decide) ?_
    refine et_goto (tgt := 16) d_M_rounds_12 (by decide) ?_
    refine et_putf (ci := 7) 0 d_M_rounds_16 h64 rfl in_M ty_M nm_M (by decide) fl_M_72 rfl rfl (fun _ => rfl) (fun _ => rfl) (Nat.le_of_ble_eq_true rfl) (fs' := [_, _, _, _, _, _, _, _, _, _, _, _, _, _, _, _, _, _, _, _, _, _, _, _, _, _, _, _, _, _, _, _, _]) rfl ?_
    refine et_aload_n (i := 0) d_M_rounds_19 rfl rfl ?_
    refine et_getf (ci := 7) 0 d_M_rounds_20 rfl rfl in_M (by decide) fl_M_72 rfl ?_
    refine et_if_le (tgt := 28) d_M_rounds_23 (by decide) (fun _ => ?_) (fun q => absurd (by decide) q)
    obtain ⟨mx, hmx, rfl⟩ : ∃ mx : Nat, mx ≤ 20 ∧ x = nI mx := nI_of2 (M := 20) rfl (Int32.not_lt.mpr z.1) z.2
    have hclamp : (nI mx).toNatClampNeg = mx := nI_clamp (by omega)
    have loop : ∀ (t k : Nat) (g : gr) (u1 : Bool) (rs1 : Int32) (hh : Nat → et_MC) (o3 : Option Value), k + t = mx → gG 40 g → hh 64 = et_Mo 0 le a_ wr en al se (nI rc) (nI (gN g)) (nI (gC g)) (bI u1) rs1 dc ds → et_mg (gI g) hh → ((∃ b, hh 73 = .inl (0, 104, .inl b)) ∧ (∃ b, hh 74 = .inl (0, 62, .inl b)) ∧ (∃ b, hh 75 = .inl (0, 3, .inl b)) ∧ (∃ b, hh 76 = .inl (0, 128, .inl b)) ∧ (∃ b, hh 77 = .inl (0, 80, .inl b)) ∧ ∃ b, hh 78 = .inl (0, 4800, .inl b)) → (∀ k, (k < 64 ∨ (64 < k ∧ k < 68) ∨ 78 < k) → hh k = h k) → (∀ g' v, mdsP ru rc t k g v g' → mdsP ru rc mx 0 g0 v g') → et_M sc Y_M_rounds (d + 6) 0 0 (fun r0 h' n' => n' = n ∧ (∀ k, (k < 64 ∨ (64 < k ∧ k < 68) ∨ 78 < k) → h' k = h k) ∧ ((∃ b, h' 73 = .inl (0, 104, .inl b)) ∧ (∃ b, h' 74 = .inl (0, 62, .inl b)) ∧ (∃ b, h' 75 = .inl (0, 3, .inl b)) ∧ (∃ b, h' 76 = .inl (0, 128, .inl b)) ∧ (∃ b, h' 77 = .inl (0, 80, .inl b)) ∧ ∃ b, h' 78 = .inl (0, 4800, .inl b)) ∧ ∃ (u' : Bool) (rs' : Int32), ((¬ (0 ≤ (nI mx) ∧ (nI mx) ≤ 20) ∧ r0 = .inl (some (.int 0)) ∧ h' 64 = et_Mo 1 le a_ wr en al se (nI rc) (nI (gN g0)) (nI (gC g0)) (bI u') rs' dc ds ∧ et_mg (gI g0) h') ∨ ((0 ≤ (nI mx) ∧ (nI mx) ≤ 20) ∧ ∃ g' v, mdsP ru rc mx 0 g0 v g' ∧ gG 40 g' ∧ r0 = .inl (some (.int v)) ∧ h' 64 = et_Mo 0 le a_ wr en al se (nI rc) (nI (gN g')) (nI (gC g')) (bI u') rs' dc ds ∧ et_mg (gI g') h'))) 30 [some (.ref 64), some (.int (nI mx)), some (.int (nI k)), none] [] hh n 0 0 := by
      intro t
      induction t with
      | zero =>
        intro k g u1 rs1 hh o3 hk G k64 g1 cs fr con
        obtain rfl : k = mx := by omega
        refine et_iload_n (i := 2) d_M_rounds_30 rfl rfl ?_
        refine et_iload_n (i := 1) d_M_rounds_31 rfl rfl ?_
        refine et_icmp_ge (tgt := 64) d_M_rounds_32 (by decide) (fun _ => ?_) (fun q => absurd (nI_le (Nat.le_refl _) (by omega)) q)
        refine et_iload_n (i := 2) d_M_rounds_64 rfl rfl ?_
        exact et_iret d_M_rounds_65 rfl (Nat.le_refl _) (Nat.le_refl _) ⟨rfl, fr, cs, u1, rs1, Or.inr ⟨z, g, nI k, con g _ ⟨rfl, rfl⟩, G, rfl, k64, g1⟩⟩
      | succ t ih =>
        intro k g u1 rs1 hh o3 hk G k64 g1 cs fr con
        obtain ⟨c73, c74, c75, c76, c77, c78⟩ := cs
        refine et_iload_n (i := 2) d_M_rounds_30 rfl rfl ?_
        refine et_iload_n (i := 1) d_M_rounds_31 rfl rfl ?_
        refine et_icmp_ge (tgt := 64) d_M_rounds_32 (by decide) (fun q => absurd q (nI_ge (by omega) (by omega))) (fun _ => ?_)
        refine et_aload_n (i := 0) d_M_rounds_35 rfl rfl ?_
        refine et_invV mV_M_oneRound (As := []) rfl d_M_rounds_36 lk_M_192 len_M_oneRound k64 rfl (Nat.le_of_ble_eq_true rfl) (c_M_oneRound (d := d) u1 G hR ((fr 66 (by omega)).trans h66) ((fr 67 (by omega)).trans h67) k64 g1 c73 c74 c75 c76 c77 c78) (Nat.le_refl _) (Nat.le_of_ble_eq_true rfl) (Nat.le_of_ble_eq_true rfl) (fun v h2 n' hp => ?_) (fun x h' n' hp => by obtain ⟨-, -, -, u', rs', ⟨-, e, -⟩ | ⟨g', ch, -, -, e, -⟩⟩ := hp <;> cases e)
        obtain ⟨hn2, fr2, cs2, u2, rs2, hres⟩ := hp
        replace hn2 := hn2.symm
        subst hn2
        have fr3 : (∀ k, (k < 64 ∨ (64 < k ∧ k < 68) ∨ 78 < k) → h2 k = h k) := fun k hk => (fr2 k hk).trans (fr k hk)
        rcases hres with ⟨md, hv, l64, g2⟩ | ⟨g', ch, md, G', hv, l64, g2⟩
        · cases hv
          refine et_istore_n (i := 3) (lv' := [_, _, _, _]) d_M_rounds_39 rfl (by decide) rfl rfl ?_
          refine et_iload_n (i := 3) d_M_rounds_40 rfl rfl ?_
          refine et_iconst (v := 1) d_M_rounds_41 (by decide) ?_
          refine et_icmp_eq (tgt := 58) d_M_rounds_42 (by decide) (fun q => absurd q (by decide)) (fun _ => ?_)
          refine et_iload_n (i := 3) d_M_rounds_45 rfl rfl ?_
          refine et_bipush (v := (-2)) d_M_rounds_46 (by decide) ?_
          refine et_icmp_ne (tgt := 56) d_M_rounds_48 (by decide) (fun q => absurd rfl q) (fun _ => ?_)
          refine et_bipush (v := (-2)) d_M_rounds_51 (by decide) ?_
          refine et_goto (tgt := 57) d_M_rounds_53 (by decide) ?_
          exact et_iret d_M_rounds_57 rfl (Nat.le_refl _) (Nat.le_refl _) ⟨rfl, fr3, cs2, u2, rs2, Or.inr ⟨z, g, -2, con g _ (Or.inl ⟨md, rfl, rfl⟩), G, rfl, l64, g2⟩⟩
        · cases hv
          cases ch with
          | true =>
            show et_M sc Y_M_rounds _ _ _ _ _ _ [.int 1] _ _ _ _
            refine et_istore_n (i := 3) (lv' := [_, _, _, _]) d_M_rounds_39 rfl (by decide) rfl rfl ?_
            refine et_iload_n (i := 3) d_M_rounds_40 rfl rfl ?_
            refine et_iconst (v := 1) d_M_rounds_41 (by decide) ?_
            refine et_icmp_eq (tgt := 58) d_M_rounds_42 (by decide) (fun _ => ?_) (fun q => absurd rfl q)
            refine et_iinc (lv' := [_, _, _, _]) d_M_rounds_58 rfl (v := nI (k + 1)) (nI_1 k) (by decide) rfl rfl ?_
            refine et_goto (tgt := 30) d_M_rounds_61 (by decide) ?_
            exact et_weak et_w4a (ih (k + 1) g' u2 rs2 h2 none (by omega) G' l64 g2 cs2 fr3 (fun g'' v hm => con g'' v (Or.inr (Or.inr ⟨g', md, hm⟩))))
          | false =>
            show et_M sc Y_M_rounds _ _ _ _ _ _ [.int 0] _ _ _ _
            refine et_istore_n (i := 3) (lv' := [_, _, _, _]) d_M_rounds_39 rfl (by decide) rfl rfl ?_
            refine et_iload_n (i := 3) d_M_rounds_40 rfl rfl ?_
            refine et_iconst (v := 1) d_M_rounds_41 (by decide) ?_
            refine et_icmp_eq (tgt := 58) d_M_rounds_42 (by decide) (fun q => absurd q (by decide)) (fun _ => ?_)
            refine et_iload_n (i := 3) d_M_rounds_45 rfl rfl ?_
            refine et_bipush (v := (-2)) d_M_rounds_46 (by decide) ?_
            refine et_icmp_ne (tgt := 56) d_M_rounds_48 (by decide) (fun _ => ?_) (fun q => absurd q (by decide))
            refine et_iload_n (i := 2) d_M_rounds_56 rfl rfl ?_
            exact et_iret d_M_rounds_57 rfl (Nat.le_refl _) (Nat.le_refl _) ⟨rfl, fr3, cs2, u2, rs2, Or.inr ⟨z, g', nI k, con g' _ (Or.inr (Or.inl ⟨md, rfl⟩)), G', rfl, l64, g2⟩⟩
    refine et_iconst (v := nI 0) d_M_rounds_28 (by decide) ?_
    refine et_istore_n (i := 2) (lv' := [_, _, _, _]) d_M_rounds_29 rfl (by decide) rfl rfl ?_
    rw [hclamp]
    refine loop mx 0 g0 u rs _ none (by omega) G0 va_eq (hg.same (fun k a b => va_ne (by omega))) ⟨?_, ?_, ?_, ?_, ?_, ?_⟩ (fun k hk => va_ne (by omega)) (fun _ _ h => h)
    · obtain ⟨b, hb⟩ := c73; exact ⟨b, (va_ne (by decide)).trans hb⟩
    · obtain ⟨b, hb⟩ := c74; exact ⟨b, (va_ne (by decide)).trans hb⟩
    · obtain ⟨b, hb⟩ := c75; exact ⟨b, (va_ne (by decide)).trans hb⟩
    · obtain ⟨b, hb⟩ := c76; exact ⟨b, (va_ne (by decide)).trans hb⟩
    · obtain ⟨b, hb⟩ := c77; exact ⟨b, (va_ne (by decide)).trans hb⟩
    · obtain ⟨b, hb⟩ := c78; exact ⟨b, (va_ne (by decide)).trans hb⟩
  · rw [if_neg z]
    refine et_if_eq (tgt := 15) d_M_rounds_8 (by decide) (fun _ => ?_) (fun q => absurd rfl q)
    refine et_iconst (v := 1) d_M_rounds_15 (by decide) ?_
    refine et_putf (ci := 7) 0 d_M_rounds_16 h64 rfl in_M ty_M nm_M (by decide) fl_M_72 rfl rfl (fun _ => rfl) (fun _ => rfl) (Nat.le_of_ble_eq_true rfl) (fs' := [_, _, _, _, _, _, _, _, _, _, _, _, _, _, _, _, _, _, _, _, _, _, _, _, _, _, _, _, _, _, _, _, _]) rfl ?_
    refine et_aload_n (i := 0) d_M_rounds_19 rfl rfl ?_
    refine et_getf (ci := 7) 0 d_M_rounds_20 rfl rfl in_M (by decide) fl_M_72 rfl ?_
    refine et_if_le (tgt := 28) d_M_rounds_23 (by decide) (fun q => absurd q (by decide)) (fun _ => ?_)
    refine et_iconst (v := 0) d_M_rounds_26 (by decide) ?_
    refine et_iret d_M_rounds_27 rfl (Nat.le_refl _) (Nat.le_refl _) ⟨rfl, fun k hk => va_ne (by omega), ⟨?_, ?_, ?_, ?_, ?_, ?_⟩, u, rs, Or.inl ⟨z, rfl, va_eq, hg.same (fun k a b => va_ne (by omega))⟩⟩
    · obtain ⟨b, hb⟩ := c73; exact ⟨b, (va_ne (by decide)).trans hb⟩
    · obtain ⟨b, hb⟩ := c74; exact ⟨b, (va_ne (by decide)).trans hb⟩
    · obtain ⟨b, hb⟩ := c75; exact ⟨b, (va_ne (by decide)).trans hb⟩
    · obtain ⟨b, hb⟩ := c76; exact ⟨b, (va_ne (by decide)).trans hb⟩
    · obtain ⟨b, hb⟩ := c77; exact ⟨b, (va_ne (by decide)).trans hb⟩
    · obtain ⟨b, hb⟩ := c78; exact ⟨b, (va_ne (by decide)).trans hb⟩
