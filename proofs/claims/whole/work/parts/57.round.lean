theorem et_w7 {a b c d e f o6 : Option Value} : ∀ (j : Nat) (v : Value), ([a, b, c, d, e, f, none] : List (Option Value))[j]? = some (some v) → ([a, b, c, d, e, f, o6] : List (Option Value))[j]? = some (some v)
  | 0, _, h => h
  | 1, _, h => h
  | 2, _, h => h
  | 3, _, h => h
  | 4, _, h => h
  | 5, _, h => h
  | 6, _, h => by simp at h
  | j + 7, _, h => by simp at h
/-! ===== a round of all rules ===== -/
abbrev prul : Type := (Nat → Int32) × Nat × Nat
/-- a match of a rule in a graph: the class of its first side, its second side, its variables -/
def okA (g0 : gr) (ru : Nat → prul) (rc : Nat) (a : gact) : Prop := ∃ r, r < rc ∧ a.1 < gC g0 ∧ a.2.1 = sg (ru r).1 (ru r).2.2 ((ru r).2.2 - ((ru r).2.1 + 1)) ∧ gEval false 40 a.2.2 (sg (ru r).1 (ru r).2.1 (ru r).2.1) (gI g0) = some ([a.1], gI g0) ∧ ∀ i, i < (ru r).2.1 → et_isv ((ru r).1 i) → a.2.2 ((ru r).1 i - 97).toNatClampNeg < gC g0
def sameA (a a' : gact) : Prop := a'.1 = a.1 ∧ a'.2.1 = a.2.1 ∧ ∀ c ∈ a.2.1, et_isv c → a'.2.2 (c - 97).toNatClampNeg = a.2.2 (c - 97).toNatClampNeg
def allA (g0 : gr) (ru : Nat → prul) (rc : Nat) (A : List gact) : Prop := (∀ a ∈ A, okA g0 ru rc a) ∧ ∀ a, okA g0 ru rc a → ∃ a' ∈ A, sameA a a'
def PA (A : List gact) (g : gr) (u v : Nat) : Prop := ∃ a ∈ A, a.1 = u ∧ aTo g a v
def rdFull (lim : Nat) (g : gr) (ru : Nat → prul) (rc : Nat) : Prop := ∃ A s1 a, (∀ a ∈ A, okA g ru rc a) ∧ okA g ru rc a ∧ runA lim A (gI g, false) = some s1 ∧ doA lim a s1 = none
def rdStep (lim : Nat) (g : gr) (ru : Nat → prul) (rc : Nat) (g' : gr) (ch : Bool) : Prop := ∃ A s', allA g ru rc A ∧ runA lim A (gI g, false) = some s' ∧ s'.2 = ch ∧ gQuot s'.1.1 (PA A s'.1.1) g'
def rusOk (ru : Nat → prul) (rc : Nat) : Prop := ∀ r, r < rc → rOk (ru r).1 (ru r).2.1 (ru r).2.2
theorem sg_mem {row : Nat → Int32} {to : Nat} {c : Int32} : ∀ {k : Nat}, k ≤ to → c ∈ sg row to k → ∃ j, to - k ≤ j ∧ j < to ∧ row j = c
  | 0, _, h => by simp [sg] at h
  | k + 1, hk, h => by
    rw [sg] at h
    rcases List.mem_cons.mp h with z | z
    · exact ⟨to - (k + 1), Nat.le_refl _, by omega, z.symm⟩
    · obtain ⟨j, h1, h2, h3⟩ := sg_mem (by omega) z
      exact ⟨j, by omega, h2, h3⟩
theorem okA_aOk {g0 : gr} {ru : Nat → prul} {rc : Nat} {a : gact} (hr : rusOk ru rc) (h : okA g0 ru rc a) : aOk g0 a := by
  obtain ⟨r, h1, h2, h3, h4, h5⟩ := h
  obtain ⟨-, ⟨m2, hw⟩, -, -, -, r6⟩ := hr r h1
  refine ⟨h2, (ru r).1, (ru r).2.1 + 1, (ru r).2.2, m2, h3, hw, fun i i1 i2 i3 => ?_⟩
  obtain ⟨j, j1, j2⟩ := inF_iff.mp (r6 i i1 i2 i3)
  have := h5 j j1 (by rw [j2]; exact i3)
  rw [j2] at this
  exact this
theorem mt_at0 {g : gr} {row : Nat → Int32} {e len : Nat} {se vt th : Nat → Nat} (hr : rOk row e len) : mtP g row e se vt th 0 ↔ gEval false 40 th (sg row e e) (gI g) = some ([se 0], gI g) := by
  obtain ⟨⟨m, hw⟩, -⟩ := hr
  have hl := stN_len hw e (by omega)
  rw [Nat.sub_self, hw.2.1] at hl
  have he : stN row e e = [0] := by
    have h1 := stN_step (row := row) hw.1
    rw [Nat.sub_zero] at h1
    rw [h1] at hl ⊢
    rw [List.length_cons] at hl
    rw [List.eq_nil_of_length_eq_zero (by omega : ((stN row e (e - (0 + 1))).drop (pw (row 0))).length = 0)]
  unfold mtP
  rw [Nat.sub_zero, he]
  exact ⟨fun h => h.2, fun h => ⟨(fun v _ hi => by cases hi), h⟩⟩
/-- the rules in the class's cells -/
def et_RP (rc : Nat) (ru : Nat → prul) (kr : Nat → Nat) (rr : Nat → Option Nat) (h : Nat → et_MC) : Prop := rc ≤ 6 ∧ h 63 = .inl (3, 6, .inr (.inr (.inr (.inr rr)))) ∧ ∀ r, r < rc → rr r = some (kr r) ∧ 85 ≤ kr r ∧ rOk (ru r).1 (ru r).2.1 (ru r).2.2 ∧ et_RU (kr r) (ru r).1 (ru r).2.1 (ru r).2.2 h
/-- walk and round between calls -/
def et_RO (h : Nat → et_MC) : Prop := h 10 = .inr (5, [.ref 11, .ref 3, .ref 12]) ∧ (∃ va, h 11 = .inl (0, 3, .inl va)) ∧ (∃ st, h 12 = .inl (0, 60, .inl st)) ∧ (∃ ch : Bool, h 13 = .inr (2, [.int (bI ch), .ref 3, .ref 10, .ref 14, .ref 15, .ref 16])) ∧ (∃ sa, h 14 = .inl (0, 7, .inl sa)) ∧ (∃ b15, h 15 = .inl (0, 40, .inl b15)) ∧ ∃ b16, h 16 = .inl (0, 41, .inl b16)
theorem gQuot_run {g0 : gr} {ru : Nat → prul} {rc : Nat} {A : List gact} {y : gx} (G0 : gG 40 g0) (hr : rusOk ru rc) (hA : ∀ a ∈ A, okA g0 ru rc a) (h : runA 40 A (gI g0, false) = some (y, false)) : y.1 = g0 ∧ (∀ c, c < gC y.1 → y.2 c = c) ∧ gQuot y.1 (PA A y.1) y.1 := by
  have I0 : rdI 40 g0 (gI g0) := ⟨G0, gLe.refl _, fun c hc => hc, fun _ _ => rfl⟩
  obtain ⟨r1, r2, r3, r4, r5, r6, r7, r8⟩ := runA_sem (Nat.le_refl 40) A (gI g0, false) (y, false) I0 (fun a ha => okA_aOk hr (hA a ha)) h
  obtain ⟨q1, q2⟩ := r6 rfl
  have hid : ∀ c, c < gC y.1 → y.2 c = c := fun c hc => q2 c (by rw [← q1]; exact hc)
  refine ⟨q1, hid, gQuot_refl r1.1 (fun u v ⟨a, ha, e1, e2⟩ => ?_)⟩
  obtain ⟨b, b1, b2, b3⟩ := r4 a ha
  have hb := aTo_one b2 e2
  subst hb
  have ha1 : a.1 < gC y.1 := Nat.lt_of_lt_of_le (okA_aOk hr (hA a ha)).1 r2.2.1
  have b3' : y.2 a.1 = y.2 b := b3
  rw [hid _ ha1, hid _ b1] at b3'
  rw [← e1, b3']
set_option maxHeartbeats 4000000 in
set_option maxRecDepth 100000 in
theorem c_R_fitAll {sc : et_X} {h : Nat → et_MC} {d n : Nat} {g0 : gr} {ru : Nat → prul} {kr : Nat → Nat} {rr : Nat → Option Nat} {rc : Nat} (G0 : gG 40 g0) (hg : et_gh (gI g0) h) (hO : et_RO h) (hP : et_RP rc ru kr rr h) : et_Cn sc Y_R_fitAll (d + 12) [.ref 13, .ref 63, .int (nI rc)] h n 0 0 (fun r h' n' => n' = n ∧ (∀ q, (q < 3 ∨ q = 10 ∨ 16 < q) → h' q = h q) ∧ et_RO h' ∧ ((r = .inl (some (.int 0)) ∧ rdFull 40 g0 ru rc ∧ et_gh (gI g0) h') ∨ ∃ g' ch, r = .inl (some (.int 1)) ∧ rdStep 40 g0 ru rc g' ch ∧ gG 40 g' ∧ et_gh (gI g') h' ∧ h' 13 = .inr (2, [.int (bI ch), .ref 3, .ref 10, .ref 14, .ref 15, .ref 16]))) := by
  refine et_Cn.of 4 rfl rfl (by decide) mV_R_fitAll.1 ?_
  obtain ⟨h10, ⟨va, h11⟩, ⟨st, h12⟩, ⟨ch0, h13⟩, ⟨sa0, h14⟩, ⟨c15, h15⟩, c16, h16⟩ := hO
  obtain ⟨p1, p2, p3⟩ := hP
  obtain ⟨a4, a5, a6, a7, a8, a9, h3, -⟩ := id hg
  have o1 := G0.1.1
  have o2 := G0.1.2.1
  have hr : rusOk ru rc := fun r hr => (p3 r hr).2.2.1
  have I0 : rdI 40 g0 (gI g0) := ⟨G0, gLe.refl _, fun c hc => hc, fun _ _ => rfl⟩
  have outer : ∀ (t r : Nat) (A : List gact) (y : gx) (ch : Bool) (se vt : Nat → Nat) (hh : Nat → et_MC), r + t = rc → (∀ a ∈ A, okA g0 ru rc a) → runA 40 A (gI g0, false) = some (y, ch) → rdI 40 g0 y → et_RH y ch se vt hh → et_LS g0 hh → (∀ q, (q < 3 ∨ q = 10 ∨ 16 < q) → hh q = h q) → (∀ a, okA g0 ru rc a → (∃ r', r' < r ∧ a.2.1 = sg (ru r').1 (ru r').2.2 ((ru r').2.2 - ((ru r').2.1 + 1)) ∧ gEval false 40 a.2.2 (sg (ru r').1 (ru r').2.1 (ru r').2.1) (gI g0) = some ([a.1], gI g0) ∧ ∀ i, i < (ru r').2.1 → et_isv ((ru r').1 i) → a.2.2 ((ru r').1 i - 97).toNatClampNeg < gC g0) → ∃ a' ∈ A, sameA a a') → et_M sc Y_R_fitAll (d + 12) 0 0 (fun r h' n' => n' = n ∧ (∀ q, (q < 3 ∨ q = 10 ∨ 16 < q) → h' q = h q) ∧ et_RO h' ∧ ((r = .inl (some (.int 0)) ∧ rdFull 40 g0 ru rc ∧ et_gh (gI g0) h') ∨ ∃ g' ch, r = .inl (some (.int 1)) ∧ rdStep 40 g0 ru rc g' ch ∧ gG 40 g' ∧ et_gh (gI g') h' ∧ h' 13 = .inr (2, [.int (bI ch), .ref 3, .ref 10, .ref 14, .ref 15, .ref 16]))) 29 [some (.ref 13), some (.ref 63), some (.int (nI rc)), some (.int (nI (gN g0))), some (.int (nI (gC g0))), some (.int (nI r)), none] [] hh n 0 0 := by
    intro t
    induction t with
    | zero =>
      intro r A y ch se vt hh hi hA hrun I hR hL fr hall
      obtain rfl : r = rc := by omega
      obtain ⟨hgy, g10, ⟨va1, g11, -⟩, ⟨st1, g12⟩, g13, sa1, g14, -⟩ := id hR
      obtain ⟨b15, b16, -, -, g15, g16, -⟩ := id hL
      have hAll : allA g0 ru r A := ⟨hA, fun a ha => hall a ha (by obtain ⟨r', z1, z2, z3⟩ := ha; exact ⟨r', z1, z3⟩)⟩
      refine et_iload d_R_fitAll_29 rfl ?_
      refine et_iload_n (i := 2) d_R_fitAll_31 rfl rfl ?_
      refine et_icmp_ge (tgt := 89) d_R_fitAll_32 (by decide) (fun _ => ?_) (fun q => absurd (nI_le (Nat.le_refl _) (by omega)) q)
      refine et_aload_n (i := 0) d_R_fitAll_89 rfl rfl ?_
      refine et_getf (ci := 2) 0 d_R_fitAll_90 g13 rfl in_R (by decide) fl_R_9 rfl ?_
      cases ch with
      | false =>
        obtain ⟨q1, q2, q3⟩ := gQuot_run G0 hr hA hrun
        refine et_if_eq (tgt := 103) d_R_fitAll_93 (by decide) (fun _ => ?_) (fun q => absurd rfl q)
        refine et_iconst (v := 1) d_R_fitAll_103 (by decide) ?_
        exact et_zret d_R_fitAll_104 rfl rfl (Nat.le_of_ble_eq_true rfl) (Nat.le_of_ble_eq_true rfl) ⟨rfl, fr, ⟨g10, ⟨va1, g11⟩, ⟨st1, g12⟩, ⟨false, g13⟩, ⟨sa1, g14⟩, ⟨b15, g15⟩, b16, g16⟩, Or.inr ⟨y.1, false, rfl, ⟨A, (y, false), hAll, hrun, rfl, q3⟩, I.1, et_gh_nm hgy q2, g13⟩⟩
      | true =>
        have rs := runA_sem (Nat.le_refl 40) A (gI g0, false) (y, true) I0 (fun a ha => okA_aOk hr (hA a ha)) hrun
        obtain ⟨r1, r2, r3, r4, r5, -⟩ := rs
        obtain ⟨b4, b5, b6, b7, b8, b9, k3, -⟩ := id hgy
        refine et_if_eq (tgt := 103) d_R_fitAll_93 (by decide) (fun q => absurd q (by decide)) (fun _ => ?_)
        refine et_aload_n (i := 0) d_R_fitAll_96 rfl rfl ?_
        refine et_getf (ci := 2) 1 d_R_fitAll_97 g13 rfl in_R (by decide) fl_R_25 rfl ?_
        refine et_invV mV_G_settle (As := []) rfl d_R_fitAll_100 lk_R_53 len_G_settle k3 rfl (Nat.le_of_ble_eq_true rfl) (c_G_settle (d := d) (x := y) (P := PA A y.1) I.1.1.bd I.1.2.2.1 I.2.2.1 I.2.2.2 (fun u v hu hv e => r5 (gCong y.1 (PA A y.1)) (gCong.eqv _ _) (fun u v _ _ e => by rw [show u = v from e]; exact (gCong.eqv _ _).1 _) (fun a ha b hb => gCong.sub _ _ ⟨a, ha, rfl, hb⟩) u v hu hv e) (fun u v ⟨a, ha, e1, e2⟩ => by obtain ⟨b, b1, b2, b3⟩ := r4 a ha; have hb := aTo_one b2 e2; subst hb; rw [← e1]; exact ⟨Nat.lt_of_lt_of_le (okA_aOk hr (hA a ha)).1 r2.2.1, b1, b3⟩) hgy) (by omega) (Nat.le_of_ble_eq_true rfl) (Nat.le_of_ble_eq_true rfl) (fun v hf n' hp => ?_) (fun x h' n' hp => by cases hp.1)
        obtain ⟨hv, hn2, fr5, g', hq', -, gf⟩ := hp
        cases hv
        replace hn2 := hn2.symm
        subst hn2
        refine et_iconst (v := 1) d_R_fitAll_103 (by decide) ?_
        exact et_zret d_R_fitAll_104 rfl rfl (Nat.le_of_ble_eq_true rfl) (Nat.le_of_ble_eq_true rfl) ⟨rfl, fun q hq => (fr5 q (by omega)).trans (fr q hq), ⟨(fr5 10 (by omega)).trans g10, ⟨va1, (fr5 11 (by omega)).trans g11⟩, ⟨st1, (fr5 12 (by omega)).trans g12⟩, ⟨true, (fr5 13 (by omega)).trans g13⟩, ⟨sa1, (fr5 14 (by omega)).trans g14⟩, ⟨b15, (fr5 15 (by omega)).trans g15⟩, b16, (fr5 16 (by omega)).trans g16⟩, Or.inr ⟨g', true, rfl, ⟨A, (y, true), hAll, hrun, rfl, hq'⟩, gQuot_g hq' I.1, gf, (fr5 13 (by omega)).trans g13⟩⟩
    | succ t ih =>
      intro r A y ch se vt hh hi hA hrun I hR hL fr hall
      obtain ⟨q1, q2, q3, q4⟩ := p3 r (by omega)
      have inner : ∀ (u c : Nat) (A : List gact) (y : gx) (ch : Bool) (se vt : Nat → Nat) (hh : Nat → et_MC), c + u = gC g0 → (∀ a ∈ A, okA g0 ru rc a) → runA 40 A (gI g0, false) = some (y, ch) → rdI 40 g0 y → et_RH y ch se vt hh → et_LS g0 hh → (∀ q, (q < 3 ∨ q = 10 ∨ 16 < q) → hh q = h q) → (∀ a, okA g0 ru rc a → (∃ r', (r' < r ∨ (r' = r ∧ a.1 < c)) ∧ a.2.1 = sg (ru r').1 (ru r').2.2 ((ru r').2.2 - ((ru r').2.1 + 1)) ∧ gEval false 40 a.2.2 (sg (ru r').1 (ru r').2.1 (ru r').2.1) (gI g0) = some ([a.1], gI g0) ∧ ∀ i, i < (ru r').2.1 → et_isv ((ru r').1 i) → a.2.2 ((ru r').1 i - 97).toNatClampNeg < gC g0) → ∃ a' ∈ A, sameA a a') → et_M sc Y_R_fitAll (d + 12) 0 0 (fun r h' n' => n' = n ∧ (∀ q, (q < 3 ∨ q = 10 ∨ 16 < q) → h' q = h q) ∧ et_RO h' ∧ ((r = .inl (some (.int 0)) ∧ rdFull 40 g0 ru rc ∧ et_gh (gI g0) h') ∨ ∃ g' ch, r = .inl (some (.int 1)) ∧ rdStep 40 g0 ru rc g' ch ∧ gG 40 g' ∧ et_gh (gI g') h' ∧ h' 13 = .inr (2, [.int (bI ch), .ref 3, .ref 10, .ref 14, .ref 15, .ref 16]))) 38 [some (.ref 13), some (.ref 63), some (.int (nI rc)), some (.int (nI (gN g0))), some (.int (nI (gC g0))), some (.int (nI r)), some (.int (nI c))] [] hh n 0 0 := by
        intro u
        induction u with
        | zero =>
          intro c A y ch se vt hh hc hA hrun I hR hL fr hall
          obtain rfl : c = gC g0 := by omega
          refine et_iload d_R_fitAll_38 rfl ?_
          refine et_iload d_R_fitAll_40 rfl ?_
          refine et_icmp_ge (tgt := 83) d_R_fitAll_42 (by decide) (fun _ => ?_) (fun q => absurd (nI_le (Nat.le_refl _) (by omega)) q)
          refine et_iinc (lv' := [_, _, _, _, _, _, _]) d_R_fitAll_83 rfl (v := nI (r + 1)) (nI_1 r) (by decide) rfl rfl ?_
          refine et_goto (tgt := 29) d_R_fitAll_86 (by decide) ?_
          refine et_weak et_w7 (ih (r + 1) A y ch se vt hh (by omega) hA hrun I hR hL fr (fun a ha hx => hall a ha ?_))
          obtain ⟨r', z1, z2⟩ := hx
          refine ⟨r', ?_, z2⟩
          rcases Nat.lt_or_ge r' r with z | z
          · exact Or.inl z
          · exact Or.inr ⟨by omega, by obtain ⟨_, _, w, _⟩ := ha; exact w⟩
        | succ u ihu =>
          intro c A y ch se vt hh hc hA hrun I hR hL fr hall
          obtain ⟨hgy, g10, ⟨va1, g11, hva1⟩, ⟨st1, g12⟩, g13, sa1, g14, hsa1⟩ := id hR
          obtain ⟨b15, b16, bg, ls, g15, g16, hLr⟩ := id hL
          refine et_iload d_R_fitAll_38 rfl ?_
          refine et_iload d_R_fitAll_40 rfl ?_
          refine et_icmp_ge (tgt := 83) d_R_fitAll_42 (by decide) (fun q => absurd q (nI_ge (by omega) (by omega))) (fun _ => ?_)
          refine et_aload_n (i := 0) d_R_fitAll_45 rfl rfl ?_
          refine et_getf (ci := 2) 3 d_R_fitAll_46 g13 rfl in_R (by decide) fl_R_15 rfl ?_
          refine et_iconst (v := 0) d_R_fitAll_49 (by decide) ?_
          refine et_iload d_R_fitAll_50 rfl ?_
          refine et_iasn (i := 0) d_R_fitAll_52 g14 (by decide) (by decide) ?_
          refine et_aload_n (i := 0) d_R_fitAll_53 rfl rfl ?_
          refine et_aload_n (i := 1) d_R_fitAll_54 rfl rfl ?_
          refine et_iload d_R_fitAll_55 rfl ?_
          refine et_ald3 d_R_fitAll_57 ((fr 63 (by omega)).trans p2) (vp_in_nI (show r < 6 by omega) (by decide)) (by rw [nI_clamp (by omega)]; exact q1) ?_
          refine et_iconst (v := 0) d_R_fitAll_58 (by decide) ?_
          generalize hha : va_up hh 14 (.inl (0, 7, .inl (upd sa1 0 (nI c)))) = ha
          have fa : ∀ q, q ≠ 14 → ha q = hh q := fun q hq => by rw [← hha]; exact va_ne hq
          have hRa : et_RH y ch (gUp se 0 c) vt ha := ⟨hgy.same (fun q e1 e2 => fa q (by omega)), (fa 10 (by decide)).trans g10, ⟨va1, (fa 11 (by decide)).trans g11, hva1⟩, ⟨st1, (fa 12 (by decide)).trans g12⟩, (fa 13 (by decide)).trans g13, upd sa1 0 (nI c), by rw [← hha]; exact va_eq, fun q hq => by
            by_cases e : q = 0
            · rw [e, pk_us, gUp_s]
            · rw [pk_un e, gUp_n _ _ e]; exact hsa1 q hq⟩
          have e7 := q3.2.2.1
          have m0 : ∀ th, mtV g0 (ru r).1 (ru r).2.1 (gUp se 0 c) vt th 0 ↔ (gEval false 40 th (sg (ru r).1 (ru r).2.1 (ru r).2.1) (gI g0) = some ([c], gI g0) ∧ ∀ i, i < (ru r).2.1 → et_isv ((ru r).1 i) → th ((ru r).1 i - 97).toNatClampNeg < gC g0) := fun th => by
            refine and_congr_left fun _ => ?_
            rw [mt_at0 q3, gUp_s]
          refine et_invV mV_R_fitFrom (As := [_, _]) rfl d_R_fitAll_59 lk_R_45 len_R_fitFrom ((fa 13 (by decide)).trans g13) rfl (Nat.le_of_ble_eq_true rfl) (c_R_fitFrom (d := d + 7 - (ru r).2.1) (len := (ru r).2.2) q2 q3 G0 (ru r).2.1 0 ha y ch (gUp se 0 c) vt (by omega) I (q4.same q2 (fun q hq => (fa q (by omega)).trans (fr q (by omega)))) ⟨b15, b16, bg, ls, (fa 15 (by decide)).trans g15, (fa 16 (by decide)).trans g16, hLr⟩ hRa (by rw [gUp_s]; omega) (fun q hq => ?_) (fun v _ hi => by cases hi)) (by omega) (Nat.le_of_ble_eq_true rfl) (Nat.le_of_ble_eq_true rfl) (fun v hb n' hp => ?_) (fun x h' n' hp => by obtain ⟨-, -, A, y', ch', se', vt', -, -, -, -, ⟨e, -⟩ | ⟨e, -⟩⟩ := hp <;> cases e)
          · have hs : stN (ru r).1 (ru r).2.1 ((ru r).2.1 - 0) = [0] := by
              obtain ⟨⟨mm, hw⟩, -⟩ := q3
              have hl := stN_len hw (ru r).2.1 (by omega)
              rw [Nat.sub_self, hw.2.1] at hl
              have h1 := stN_step (row := (ru r).1) hw.1
              rw [Nat.sub_zero] at h1 ⊢
              rw [h1] at hl ⊢
              rw [List.length_cons] at hl
              rw [List.eq_nil_of_length_eq_zero (by omega : ((stN (ru r).1 (ru r).2.1 ((ru r).2.1 - (0 + 1))).drop (pw ((ru r).1 0))).length = 0)]
            rw [hs] at hq
            rw [List.mem_singleton.mp hq, gUp_s]
            omega
          obtain ⟨hn2, fr3, A', y2, ch2, se2, vt2, c1, c2, c3, c4, c5⟩ := hp
          replace hn2 := hn2.symm
          subst hn2
          have frb : ∀ q, (q < 3 ∨ q = 10 ∨ 16 < q) → hb q = h q := fun q hq => (fr3 q (by omega)).trans ((fa q (by omega)).trans (fr q hq))
          have ok' : ∀ th, mtV g0 (ru r).1 (ru r).2.1 (gUp se 0 c) vt th 0 → ∀ a : gact, a.1 = c → a.2.1 = sg (ru r).1 (ru r).2.2 ((ru r).2.2 - ((ru r).2.1 + 1)) → a.2.2 = th → okA g0 ru rc a := fun th hth a x1 x2 x3 => by
            obtain ⟨z1, z2⟩ := (m0 th).mp hth
            exact ⟨r, by omega, by rw [x1]; omega, x2, by rw [x3, x1]; exact z1, by rw [x3]; exact z2⟩
          have hA' : ∀ a ∈ A ++ A', okA g0 ru rc a := fun a ha' => (List.mem_append.mp ha').elim (hA a) (fun z => by obtain ⟨x1, x2, x3⟩ := c1 a z; rw [gUp_s] at x1; exact ok' _ x3 a x1 x2 rfl)
          obtain ⟨gy2, e10, ⟨va2, e11, -⟩, ⟨st2, e12⟩, e13, sa2, e14, -⟩ := id c4
          have e15 := (fr3 15 (by omega)).trans ((fa 15 (by decide)).trans g15)
          have e16 := (fr3 16 (by omega)).trans ((fa 16 (by decide)).trans g16)
          rcases c5 with ⟨hv, b1, b2, b3⟩ | ⟨hv, b1, b2, s1, th, b3, b4, b5, b6⟩
          · cases hv
            refine et_if_ne (tgt := 77) d_R_fitAll_62 (by decide) (fun _ => ?_) (fun q => absurd q (by decide))
            refine et_iinc (lv' := [_, _, _, _, _, _, _]) d_R_fitAll_77 rfl (v := nI (c + 1)) (nI_1 c) (by decide) rfl rfl ?_
            refine et_goto (tgt := 38) d_R_fitAll_80 (by decide) ?_
            refine ihu (c + 1) (A ++ A') y2 ch2 se2 vt2 hb (by omega) hA' (by rw [runA_app hrun]; exact b1) b2 c4 ⟨b15, b16, bg, ls, e15, e16, hLr⟩ frb (fun a ha' hx => ?_)
            obtain ⟨r', z1, z2, z3, z4⟩ := hx
            by_cases ez : r' = r ∧ a.1 = c
            · obtain ⟨ez1, ez2⟩ := ez
              subst ez1
              obtain ⟨a', w1, w2⟩ := b3 a.2.2 ((m0 _).mpr ⟨by rw [← ez2]; exact z3, z4⟩)
              obtain ⟨x1, x2, x3⟩ := c1 a' w1
              refine ⟨a', List.mem_append.mpr (Or.inr w1), by rw [x1, gUp_s, ez2], by rw [x2, z2], fun cc hcc hv => ?_⟩
              rw [z2] at hcc
              obtain ⟨j, j1, j2, j3⟩ := sg_mem (Nat.sub_le _ _) hcc
              have r5 := q3.2.2.2.2.1
              have hin := q3.2.2.2.2.2 j (by omega) j2 (by rw [j3]; exact hv)
              rw [j3, isv_nI hv] at hin
              exact w2 _ (et_isv_in hv).1 hin
            · obtain ⟨a', w1, w2⟩ := hall a ha' ⟨r', by omega, z2, z3, z4⟩
              exact ⟨a', List.mem_append.mpr (Or.inl w1), w2⟩
          · cases hv
            refine et_if_ne (tgt := 77) d_R_fitAll_62 (by decide) (fun q => absurd (by decide) q) (fun _ => ?_)
            obtain ⟨b4', b5', b6', b7', b8', b9', k3, -⟩ := id gy2
            refine et_aload_n (i := 0) d_R_fitAll_65 rfl rfl ?_
            refine et_getf (ci := 2) 1 d_R_fitAll_66 e13 rfl in_R (by decide) fl_R_25 rfl ?_
            refine et_iload_n (i := 3) d_R_fitAll_69 rfl rfl ?_
            refine et_iload d_R_fitAll_70 rfl ?_
            refine et_invV mV_G_goBack (As := [_, _]) rfl d_R_fitAll_72 lk_R_49 len_G_goBack k3 rfl (Nat.le_of_ble_eq_true rfl) (c_G_goBack (d := d) g0 G0.1 b1 gy2) (by omega) (Nat.le_of_ble_eq_true rfl) (Nat.le_of_ble_eq_true rfl) (fun v hd n' hp => ?_) (fun x h' n' hp => by cases hp.1)
            obtain ⟨hv, hn2, fr5, gg⟩ := hp
            cases hv
            replace hn2 := hn2.symm
            subst hn2
            refine et_iconst (v := 0) d_R_fitAll_75 (by decide) ?_
            exact et_zret d_R_fitAll_76 rfl rfl (Nat.le_of_ble_eq_true rfl) (Nat.le_of_ble_eq_true rfl) ⟨rfl, fun q hq => (fr5 q (by omega)).trans (frb q hq), ⟨(fr5 10 (by omega)).trans e10, ⟨va2, (fr5 11 (by omega)).trans e11⟩, ⟨st2, (fr5 12 (by omega)).trans e12⟩, ⟨_, (fr5 13 (by omega)).trans e13⟩, ⟨sa2, (fr5 14 (by omega)).trans e14⟩, ⟨b15, (fr5 15 (by omega)).trans e15⟩, b16, (fr5 16 (by omega)).trans e16⟩, Or.inl ⟨rfl, ⟨A ++ A', s1, _, hA', ok' th b5 (c, _, th) rfl rfl rfl, by rw [runA_app hrun]; exact b3, by rw [gUp_s] at b6; exact b6⟩, gg⟩⟩
      refine et_iload d_R_fitAll_29 rfl ?_
      refine et_iload_n (i := 2) d_R_fitAll_31 rfl rfl ?_
      refine et_icmp_ge (tgt := 89) d_R_fitAll_32 (by decide) (fun q => absurd q (nI_ge (by omega) (by omega))) (fun _ => ?_)
      refine et_iconst (v := 0) d_R_fitAll_35 (by decide) ?_
      refine et_istore (lv' := [_, _, _, _, _, _, _]) d_R_fitAll_36 (by decide) rfl rfl ?_
      refine inner (gC g0) 0 A y ch se vt hh (by omega) hA hrun I hR hL fr (fun a ha hx => hall a ha ?_)
      obtain ⟨r', z1, z2⟩ := hx
      exact ⟨r', by omega, z2⟩
  refine et_aload_n (i := 0) d_R_fitAll_0 rfl rfl ?_
  refine et_getf (ci := 2) 1 d_R_fitAll_1 h13 rfl in_R (by decide) fl_R_25 rfl ?_
  refine et_getf (ci := 1) 4 d_R_fitAll_4 h3 rfl in_G (by decide) fl_R_33 rfl ?_
  refine et_istore_n (i := 3) (lv' := [_, _, _, _, _, _, _]) d_R_fitAll_7 rfl (by decide) rfl rfl ?_
  refine et_aload_n (i := 0) d_R_fitAll_8 rfl rfl ?_
  refine et_getf (ci := 2) 1 d_R_fitAll_9 h13 rfl in_R (by decide) fl_R_25 rfl ?_
  refine et_getf (ci := 1) 5 d_R_fitAll_12 h3 rfl in_G (by decide) fl_R_39 rfl ?_
  refine et_istore (lv' := [_, _, _, _, _, _, _]) d_R_fitAll_15 (by decide) rfl rfl ?_
  refine et_aload_n (i := 0) d_R_fitAll_17 rfl rfl ?_
  refine et_invV mV_R_listNodes (As := []) rfl d_R_fitAll_18 lk_R_42 len_R_listNodes h13 rfl (Nat.le_of_ble_eq_true rfl) (c_R_listNodes (d := d) (x := gI g0) G0.1 hg h13 h15 h16) (by omega) (Nat.le_of_ble_eq_true rfl) (Nat.le_of_ble_eq_true rfl) (fun v hl n' hp => ?_) (fun x h' n' hp => by cases hp.1)
  obtain ⟨hv, hn2, frl, hL⟩ := hp
  cases hv
  replace hn2 := hn2.symm
  subst hn2
  refine et_aload_n (i := 0) d_R_fitAll_21 rfl rfl ?_
  refine et_iconst (v := 0) d_R_fitAll_22 (by decide) ?_
  refine et_putf (ci := 2) 0 d_R_fitAll_23 ((frl 13 (by decide) (by decide)).trans h13) rfl in_R ty_R nm_R (by decide) fl_R_9 rfl rfl (fun _ => rfl) (fun _ => rfl) (Nat.le_of_ble_eq_true rfl) (fs' := [_, _, _, _, _, _]) rfl ?_
  refine et_iconst (v := 0) d_R_fitAll_26 (by decide) ?_
  refine et_istore (lv' := [_, _, _, _, _, _, _]) d_R_fitAll_27 (by decide) rfl rfl ?_
  generalize hha : va_up hl 13 (.inr (2, [.int 0, .ref 3, .ref 10, .ref 14, .ref 15, .ref 16])) = ha
  have fa : ∀ q, q ≠ 13 → ha q = hl q := fun q hq => by rw [← hha]; exact va_ne hq
  refine outer rc 0 [] (gI g0) false (fun q => (sa0 q).toBitVec.toNat) (fun v => (va v).toBitVec.toNat) ha (by omega) (fun a ha => absurd ha List.not_mem_nil) rfl I0 ⟨hg.same (fun q e1 e2 => (fa q (by omega)).trans (frl q (by omega) (by omega))), (fa 10 (by decide)).trans ((frl 10 (by decide) (by decide)).trans h10), ⟨va, (fa 11 (by decide)).trans ((frl 11 (by decide) (by decide)).trans h11), fun v _ => (nI_bv _).symm⟩, ⟨st, (fa 12 (by decide)).trans ((frl 12 (by decide) (by decide)).trans h12)⟩, by rw [← hha]; exact va_eq, sa0, (fa 14 (by decide)).trans ((frl 14 (by decide) (by decide)).trans h14), fun q _ => (nI_bv _).symm⟩ ?_ (fun q hq => (fa q (by omega)).trans (frl q (by omega) (by omega))) (fun a _ hx => by obtain ⟨r', z, -⟩ := hx; exact absurd z (Nat.not_lt_zero _))
  obtain ⟨b15, b16, bg, ls, z1, z2, z3⟩ := hL
  exact ⟨b15, b16, bg, ls, (fa 15 (by decide)).trans z1, (fa 16 (by decide)).trans z2, z3⟩
