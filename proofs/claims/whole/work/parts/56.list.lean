theorem et_up1516 {α : Type} (h : Nat → α) (A B A' : α) : va_up (va_up (va_up h 15 A) 16 B) 15 A' = va_up (va_up h 15 A') 16 B := by
  funext k
  by_cases e1 : k = 15
  · simp [va_up, e1]
  · by_cases e2 : k = 16 <;> simp [va_up, e1, e2]
/-! ===== the nodes, class by class ===== -/
def smN (g : gr) (k : Nat) : Nat → Nat
  | 0 => 0
  | c + 1 => smN g k c + gCntN g c k
theorem smN_succ {g : gr} {k : Nat} : ∀ c, smN g (k + 1) c = smN g k c + (if gH g k < c then 1 else 0)
  | 0 => by simp [smN]
  | c + 1 => by
    rw [smN, smN, smN_succ c, gCntN]
    by_cases e : gH g k = c
    · rw [if_pos e, if_neg (by omega), if_pos (by omega)]; omega
    · rw [if_neg e]
      by_cases e2 : gH g k < c
      · rw [if_pos e2, if_pos (by omega)]; omega
      · rw [if_neg e2, if_neg (by omega)]; omega
theorem smN_all {g : gr} {C : Nat} : ∀ {k : Nat}, (∀ n, n < k → gH g n < C) → smN g k C = k
  | 0, _ => by
    have : ∀ c, smN g 0 c = 0 := fun c => by
      induction c with
      | zero => rfl
      | succ c ih => rw [smN, ih]; rfl
    exact this C
  | k + 1, h => by rw [smN_succ, smN_all (fun n hn => h n (by omega)), if_pos (h k (by omega))]
theorem smN_mono {g : gr} {k : Nat} {c : Nat} : ∀ {c' : Nat}, c ≤ c' → smN g k c ≤ smN g k c'
  | 0, h => by rw [show c = 0 by omega]; exact Nat.le_refl _
  | c' + 1, h => by
    by_cases e : c = c' + 1
    · rw [e]; exact Nat.le_refl _
    · have := smN_mono (g := g) (k := k) (c := c) (c' := c') (by omega); rw [smN]; omega
theorem gCntN_mono {g : gr} {c i : Nat} : ∀ {j : Nat}, i ≤ j → gCntN g c i ≤ gCntN g c j
  | 0, h => by rw [show i = 0 by omega]; exact Nat.le_refl _
  | j + 1, h => by
    by_cases e : i = j + 1
    · rw [e]; exact Nat.le_refl _
    · have := gCntN_mono (g := g) (c := c) (i := i) (j := j) (by omega); rw [gCntN]; omega
/-- the classes below c are listed, and of class c the nodes below i -/
def lsI (g : gr) (c i : Nat) (ls : Nat → Nat) : Prop := (∀ c', c' < c → ∀ j, smN g (gN g) c' ≤ j → j < smN g (gN g) (c' + 1) → ls j < gN g ∧ gH g (ls j) = c') ∧ (∀ n, n < gN g → gH g n < c → ∃ j, smN g (gN g) (gH g n) ≤ j ∧ j < smN g (gN g) (gH g n + 1) ∧ ls j = n) ∧ (∀ j, smN g (gN g) c ≤ j → j < smN g (gN g) c + gCntN g c i → ls j < i ∧ gH g (ls j) = c) ∧ ∀ n, n < i → gH g n = c → ∃ j, smN g (gN g) c ≤ j ∧ j < smN g (gN g) c + gCntN g c i ∧ ls j = n
theorem ls_skip {g : gr} {c i : Nat} {ls : Nat → Nat} (I : lsI g c i ls) (h : gH g i ≠ c) : lsI g c (i + 1) ls := by
  obtain ⟨i1, i2, i3, i4⟩ := I
  have e : gCntN g c (i + 1) = gCntN g c i := by rw [gCntN, if_neg h, Nat.add_zero]
  rw [lsI, e]
  refine ⟨i1, i2, fun j h1 h2 => ⟨by have := (i3 j h1 h2).1; omega, (i3 j h1 h2).2⟩, fun n hn hc => i4 n ?_ hc⟩
  by_cases z : n = i
  · rw [z] at hc; exact absurd hc h
  · omega
theorem ls_add {g : gr} {c i : Nat} {ls : Nat → Nat} (I : lsI g c i ls) (h : gH g i = c) : lsI g c (i + 1) (gUp ls (smN g (gN g) c + gCntN g c i) i) := by
  obtain ⟨i1, i2, i3, i4⟩ := I
  have e : gCntN g c (i + 1) = gCntN g c i + 1 := by rw [gCntN, if_pos h]
  rw [lsI, e]
  have old : ∀ c', c' < c → smN g (gN g) (c' + 1) ≤ smN g (gN g) c := fun c' hc => smN_mono (by omega)
  refine ⟨fun c' hc j h1 h2 => ?_, fun n hn hc => ?_, fun j h1 h2 => ?_, fun n hn hc => ?_⟩
  · rw [gUp_n _ _ (by have := old c' hc; omega)]; exact i1 c' hc j h1 h2
  · obtain ⟨j, h1, h2, h3⟩ := i2 n hn hc
    exact ⟨j, h1, h2, by rw [gUp_n _ _ (by have := old _ hc; omega)]; exact h3⟩
  · by_cases z : j = smN g (gN g) c + gCntN g c i
    · rw [z, gUp_s]; exact ⟨by omega, h⟩
    · rw [gUp_n _ _ z]
      have := i3 j h1 (by omega)
      exact ⟨by omega, this.2⟩
  · by_cases z : n = i
    · exact ⟨smN g (gN g) c + gCntN g c i, Nat.le_add_right _ _, by omega, by rw [gUp_s, z]⟩
    · obtain ⟨j, h1, h2, h3⟩ := i4 n (by omega) hc
      exact ⟨j, h1, by omega, by rw [gUp_n _ _ (by omega)]; exact h3⟩
theorem ls_next {g : gr} {c : Nat} {ls : Nat → Nat} (I : lsI g c (gN g) ls) : lsI g (c + 1) 0 ls := by
  obtain ⟨i1, i2, i3, i4⟩ := I
  refine ⟨fun c' hc j h1 h2 => ?_, fun n hn hc => ?_, fun j h1 h2 => ?_, fun n hn => absurd hn (Nat.not_lt_zero n)⟩
  · by_cases z : c' = c
    · subst z; exact i3 j h1 (by rw [smN] at h2; exact h2)
    · exact i1 c' (by omega) j h1 h2
  · by_cases z : gH g n = c
    · obtain ⟨j, h1, h2, h3⟩ := i4 n hn z
      exact ⟨j, by rw [z]; exact h1, by rw [z, smN]; exact h2, h3⟩
    · exact i2 n hn (by omega)
  · have h2' : j < smN g (gN g) (c + 1) + 0 := h2
    omega
set_option maxHeartbeats 4000000 in
set_option maxRecDepth 100000 in
theorem c_R_listNodes {sc : et_X} {h : Nat → et_MC} {d n : Nat} {x : gx} {ch : Int32} {b15 b16 : Nat → Int32} (ok : gOk 40 x.1) (hg : et_gh x h) (h13 : h 13 = .inr (2, [.int ch, .ref 3, .ref 10, .ref 14, .ref 15, .ref 16])) (h15 : h 15 = .inl (0, 40, .inl b15)) (h16 : h 16 = .inl (0, 41, .inl b16)) : et_Cn sc Y_R_listNodes d [.ref 13] h n 0 0 (fun r h' n' => r = .inl none ∧ n' = n ∧ (∀ q, q ≠ 15 → q ≠ 16 → h' q = h q) ∧ et_LS x.1 h') := by
  refine et_Cn.of 3 rfl rfl (by decide) mV_R_listNodes.1 ?_
  obtain ⟨a4, a5, a6, a7, a8, a9, h3, h4, h5, h6, h7, h8, h9, hA, hN⟩ := id hg
  obtain ⟨o1, o2, o3⟩ := id ok
  have tot : smN x.1 (gN x.1) (gC x.1) = gN x.1 := smN_all (fun n hn => (o3 n hn).1)
  have outer : ∀ (t c : Nat) (ls : Nat → Nat) (c15 c16 : Nat → Int32) (hh : Nat → et_MC), c + t = gC x.1 → hh = (va_up (va_up h 15 (.inl (0, 40, .inl c15))) 16 (.inl (0, 41, .inl c16))) → lsI x.1 c 0 ls → (∀ j, j < smN x.1 (gN x.1) c → c15 j = nI (ls j)) → (∀ q, q < c → c16 q = nI (smN x.1 (gN x.1) q)) → et_M sc Y_R_listNodes d 0 0 (fun r h' n' => r = .inl none ∧ n' = n ∧ (∀ q, q ≠ 15 → q ≠ 16 → h' q = h q) ∧ et_LS x.1 h') 4 [some (.ref 13), some (.int (nI (smN x.1 (gN x.1) c))), some (.int (nI c)), none] [] hh n 0 0 := by
    intro t
    induction t with
    | zero =>
      intro c ls c15 c16 hh hc he I hb15 hb16
      subst he
      obtain rfl : c = gC x.1 := by omega
      refine et_iload_n (i := 2) d_R_listNodes_4 rfl rfl ?_
      refine et_aload_n (i := 0) d_R_listNodes_5 rfl rfl ?_
      refine et_getf (ci := 2) 1 d_R_listNodes_6 h13 rfl in_R (by decide) fl_R_25 rfl ?_
      refine et_getf (ci := 1) 5 d_R_listNodes_9 h3 rfl in_G (by decide) fl_R_39 rfl ?_
      refine et_icmp_ge (tgt := 70) d_R_listNodes_12 (by decide) (fun _ => ?_) (fun q => absurd (nI_le (Nat.le_refl _) (by omega)) q)
      refine et_aload_n (i := 0) d_R_listNodes_70 rfl rfl ?_
      refine et_getf (ci := 2) 5 d_R_listNodes_71 h13 rfl in_R (by decide) fl_R_22 rfl ?_
      refine et_aload_n (i := 0) d_R_listNodes_74 rfl rfl ?_
      refine et_getf (ci := 2) 1 d_R_listNodes_75 h13 rfl in_R (by decide) fl_R_25 rfl ?_
      refine et_getf (ci := 1) 5 d_R_listNodes_78 h3 rfl in_G (by decide) fl_R_39 rfl ?_
      refine et_iload_n (i := 1) d_R_listNodes_81 rfl rfl ?_
      refine et_iasn d_R_listNodes_82 rfl (by omega) (by first | decide | omega) ?_
      rw [bx_uu]
      refine et_vret d_R_listNodes_83 rfl (Nat.le_refl _) (Nat.le_refl _) ⟨rfl, rfl, fun q e1 e2 => by rw [va_ne e2, va_ne e1], c15, _, smN x.1 (gN x.1), ls, rfl, rfl, fun c hc => ?_, fun i hi => hb15 i hi, fun c hc => ⟨smN_mono (by omega), smN_mono (by omega)⟩, by rw [tot]; exact o1, fun c hc j h1 h2 => I.1 c hc j h1 h2, fun k hk => I.2.1 k hk (o3 k hk).1⟩
      by_cases e : c = gC x.1
      · rw [e, pk_us]
      · rw [pk_un e]; exact hb16 c (by omega)
    | succ t ih =>
      intro c ls c15 c16 hh hc he I hb15 hb16
      subst he
      have mc := smN_mono (g := x.1) (k := gN x.1) (show c + 1 ≤ gC x.1 by omega)
      rw [tot] at mc
      have inner : ∀ (u i : Nat) (ls : Nat → Nat) (d15 : Nat → Int32) (hh : Nat → et_MC), i + u = gN x.1 → hh = (va_up (va_up h 15 (.inl (0, 40, .inl d15))) 16 (.inl (0, 41, .inl (upd c16 c (nI (smN x.1 (gN x.1) c)))))) → lsI x.1 c i ls → (∀ j, j < smN x.1 (gN x.1) c + gCntN x.1 c i → d15 j = nI (ls j)) → et_M sc Y_R_listNodes d 0 0 (fun r h' n' => r = .inl none ∧ n' = n ∧ (∀ q, q ≠ 15 → q ≠ 16 → h' q = h q) ∧ et_LS x.1 h') 24 [some (.ref 13), some (.int (nI (smN x.1 (gN x.1) c + gCntN x.1 c i))), some (.int (nI c)), some (.int (nI i))] [] hh n 0 0 := by
        intro u
        induction u with
        | zero =>
          intro i ls d15 hh hi he I hb
          subst he
          obtain rfl : i = gN x.1 := by omega
          refine et_iload_n (i := 3) d_R_listNodes_24 rfl rfl ?_
          refine et_aload_n (i := 0) d_R_listNodes_25 rfl rfl ?_
          refine et_getf (ci := 2) 1 d_R_listNodes_26 h13 rfl in_R (by decide) fl_R_25 rfl ?_
          refine et_getf (ci := 1) 4 d_R_listNodes_29 h3 rfl in_G (by decide) fl_R_33 rfl ?_
          refine et_icmp_ge (tgt := 64) d_R_listNodes_32 (by decide) (fun _ => ?_) (fun q => absurd (nI_le (Nat.le_refl _) (by omega)) q)
          refine et_iinc (lv' := [_, _, _, _]) d_R_listNodes_64 rfl (v := nI (c + 1)) (nI_1 c) (by decide) rfl rfl ?_
          refine et_goto (tgt := 4) d_R_listNodes_67 (by decide) ?_
          refine et_weak et_w4 (ih (c + 1) ls d15 _ _ (by omega) rfl (ls_next I) hb (fun q hq => ?_))
          by_cases e : q = c
          · rw [e, pk_us]
          · rw [pk_un e]; exact hb16 q (by omega)
        | succ u ihu =>
          intro i ls d15 hh hi he I hb
          subst he
          obtain ⟨-, -, -, e7⟩ := hA i (by omega)
          have c7 := (o3 i (by omega)).1
          refine et_iload_n (i := 3) d_R_listNodes_24 rfl rfl ?_
          refine et_aload_n (i := 0) d_R_listNodes_25 rfl rfl ?_
          refine et_getf (ci := 2) 1 d_R_listNodes_26 h13 rfl in_R (by decide) fl_R_25 rfl ?_
          refine et_getf (ci := 1) 4 d_R_listNodes_29 h3 rfl in_G (by decide) fl_R_33 rfl ?_
          refine et_icmp_ge (tgt := 64) d_R_listNodes_32 (by decide) (fun q => absurd q (nI_ge (by omega) (by omega))) (fun _ => ?_)
          refine et_aload_n (i := 0) d_R_listNodes_35 rfl rfl ?_
          refine et_getf (ci := 2) 1 d_R_listNodes_36 h13 rfl in_R (by decide) fl_R_25 rfl ?_
          refine et_getf (ci := 1) 3 d_R_listNodes_39 h3 rfl in_G (by decide) fl_R_56 rfl ?_
          refine et_iload_n (i := 3) d_R_listNodes_42 rfl rfl ?_
          refine et_ialn d_R_listNodes_43 h7 (by omega) (by first | decide | omega) ?_
          refine et_iload_n (i := 2) d_R_listNodes_44 rfl rfl ?_
          rw [e7]
          have nxt : ∀ (cnt : Nat) (ls' : Nat → Nat) (e15 : Nat → Int32) (hh : Nat → et_MC), cnt = smN x.1 (gN x.1) c + gCntN x.1 c (i + 1) → hh = (va_up (va_up h 15 (.inl (0, 40, .inl e15))) 16 (.inl (0, 41, .inl (upd c16 c (nI (smN x.1 (gN x.1) c)))))) → lsI x.1 c (i + 1) ls' → (∀ j, j < cnt → e15 j = nI (ls' j)) → et_M sc Y_R_listNodes d 0 0 (fun r h' n' => r = .inl none ∧ n' = n ∧ (∀ q, q ≠ 15 → q ≠ 16 → h' q = h q) ∧ et_LS x.1 h') 58 [some (.ref 13), some (.int (nI (cnt))), some (.int (nI c)), some (.int (nI i))] [] hh n 0 0 := by
            intro cnt ls' e15 hh hcnt he I' hb'
            subst hcnt
            refine et_iinc (lv' := [_, _, _, _]) d_R_listNodes_58 rfl (v := nI (i + 1)) (nI_1 i) (by decide) rfl rfl ?_
            exact et_goto (tgt := 24) d_R_listNodes_61 (by decide) (ihu (i + 1) ls' e15 hh (by omega) he I' hb')
          refine et_icmp_ne (tgt := 58) d_R_listNodes_45 (by decide) (fun q => ?_) (fun q => ?_)
          · have q2 : gH x.1 i ≠ c := fun z => q (by rw [z])
            exact nxt _ ls d15 _ (by rw [gCntN, if_neg q2, Nat.add_zero]) rfl (ls_skip I q2) hb
          · have q2 : gH x.1 i = c := (nI_eq (by omega) (by omega)).mp q
            have e1 : gCntN x.1 c (i + 1) = gCntN x.1 c i + 1 := by rw [gCntN, if_pos q2]
            have lt : smN x.1 (gN x.1) c + gCntN x.1 c i < gN x.1 := by
              have := gCntN_mono (g := x.1) (c := c) (show i + 1 ≤ gN x.1 by omega)
              rw [smN] at mc
              omega
            refine et_aload_n (i := 0) d_R_listNodes_48 rfl rfl ?_
            refine et_getf (ci := 2) 4 d_R_listNodes_49 h13 rfl in_R (by decide) fl_R_19 rfl ?_
            refine et_iload_n (i := 1) d_R_listNodes_52 rfl rfl ?_
            refine et_iload_n (i := 3) d_R_listNodes_53 rfl rfl ?_
            refine et_iasn d_R_listNodes_54 rfl (by omega) (by first | decide | omega) ?_
            refine et_iinc (lv' := [_, _, _, _]) d_R_listNodes_55 rfl (v := nI (smN x.1 (gN x.1) c + gCntN x.1 c i + 1)) (nI_1 _) (by decide) rfl rfl ?_
            refine nxt _ _ (upd d15 (smN x.1 (gN x.1) c + gCntN x.1 c i) (nI i)) _ (by rw [e1]; omega) ?_ (ls_add I q2) (fun j hj => ?_)
            · exact et_up1516 h _ _ _
            · by_cases e : j = smN x.1 (gN x.1) c + gCntN x.1 c i
              · rw [e, pk_us, gUp_s]
              · rw [pk_un e, gUp_n _ _ e]; exact hb j (by omega)
      refine et_iload_n (i := 2) d_R_listNodes_4 rfl rfl ?_
      refine et_aload_n (i := 0) d_R_listNodes_5 rfl rfl ?_
      refine et_getf (ci := 2) 1 d_R_listNodes_6 h13 rfl in_R (by decide) fl_R_25 rfl ?_
      refine et_getf (ci := 1) 5 d_R_listNodes_9 h3 rfl in_G (by decide) fl_R_39 rfl ?_
      refine et_icmp_ge (tgt := 70) d_R_listNodes_12 (by decide) (fun q => absurd q (nI_ge (by omega) (by omega))) (fun _ => ?_)
      refine et_aload_n (i := 0) d_R_listNodes_15 rfl rfl ?_
      refine et_getf (ci := 2) 5 d_R_listNodes_16 h13 rfl in_R (by decide) fl_R_22 rfl ?_
      refine et_iload_n (i := 2) d_R_listNodes_19 rfl rfl ?_
      refine et_iload_n (i := 1) d_R_listNodes_20 rfl rfl ?_
      refine et_iasn d_R_listNodes_21 rfl (by omega) (by first | decide | omega) ?_
      refine et_iconst (v := 0) d_R_listNodes_22 (by decide) ?_
      refine et_istore_n (i := 3) (lv' := [_, _, _, _]) d_R_listNodes_23 rfl (by decide) rfl rfl ?_
      rw [bx_uu]
      exact inner (gN x.1) 0 ls c15 _ (by omega) rfl I hb15
  refine et_iconst (v := 0) d_R_listNodes_0 (by decide) ?_
  refine et_istore_n (i := 1) (lv' := [_, _, _, _]) d_R_listNodes_1 rfl (by decide) rfl rfl ?_
  refine et_iconst (v := 0) d_R_listNodes_2 (by decide) ?_
  refine et_istore_n (i := 2) (lv' := [_, _, _, _]) d_R_listNodes_3 rfl (by decide) rfl rfl ?_
  refine outer (gC x.1) 0 (fun _ => 0) b15 b16 h (by omega) ?_ ⟨fun c' hc => absurd hc (Nat.not_lt_zero _), fun k hk hc => absurd hc (Nat.not_lt_zero _), fun j h1 h2 => absurd h2 (Nat.not_lt_zero _), fun k hk => absurd hk (Nat.not_lt_zero _)⟩ (fun j hj => absurd hj (Nat.not_lt_zero _)) (fun q hq => absurd hq (Nat.not_lt_zero _))
  rw [et_upself h15, et_upself h16]
