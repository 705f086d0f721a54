/-! ===== one call on both sides: type, wipe, character, place, nodes, classes, price ===== -/
theorem nI_mod {N N0 : Nat} (h : nI N = nI N0) (h0 : N0 < 2 ^ 31) : N0 ≤ N := by
  have h1 : (nI N).toBitVec.toNat = (nI N0).toBitVec.toNat := by rw [h]
  have h2 : (nI N).toBitVec.toNat = N % 2 ^ 32 := by show (BitVec.ofNat 32 N).toNat = _; simp
  have h3 : (nI N0).toBitVec.toNat = N0 % 2 ^ 32 := by show (BitVec.ofNat 32 N0).toNat = _; simp
  rw [h2, h3, Nat.mod_eq_of_lt (show N0 < 2 ^ 32 by omega)] at h1
  have := Nat.mod_le N (2 ^ 32)
  omega
theorem tok_by {N N0 j : Nat} (h : nI N = nI N0) (h0 : N0 < 2 ^ 31) (hj : j < N0) : nI (N - 1 - j) = nI (N0 - 1 - j) := by
  have := nI_mod h h0
  rw [show N - 1 - j = N - (1 + j) by omega, show N0 - 1 - j = N0 - (1 + j) by omega, ← nI_sub (show 1 + j ≤ N by omega), ← nI_sub (show 1 + j ≤ N0 by omega), h]
theorem et_tP_n {sz : Nat} {f : Nat → Int32} {mid wp : Int32} {b : Int64} {x : Int32} {h h' : Nat → et_MC} {r : et_R} (hp : et_tP sz f mid wp b x h r h') : (¬ et_tok sz b x ∧ r = .inl (some (.int (-1))) ∧ h' = h) ∨ (et_tok sz b x ∧ ∃ (N : Nat) (g : Nat → Int32), x = nI N ∧ N ≤ 8 ∧ sz + N ≤ 60 ∧ r = .inl (some (.int (nI (sz + N)))) ∧ h' = va_up (va_up h 2 (.inl (0, 60, .inl g))) 1 (.inr (4, [.ref 2, .int (nI (sz + N)), .int mid, .int wp])) ∧ (∀ j, j < sz → g j = f j) ∧ ∀ j, j < N → g (sz + j) = et_by b (nI (N - 1 - j))) := by
  rcases hp with z | ⟨N, g, p1, p2, p3, p4, p5, p6⟩
  · exact Or.inl z
  · obtain ⟨N0, q1, q2, q3, q4, q5⟩ := id p2
    have e : nI N = nI N0 := p1.symm.trans q1
    have e2 : nI (sz + N) = nI (sz + N0) := by rw [← nI_add, ← nI_add, e]
    have := nI_mod e (by omega)
    exact Or.inr ⟨p2, N0, g, q1, q3, q4, by rw [p3, e2], by rw [p4, e2], p5, fun j hj => by rw [p6 j (by omega), tok_by e (by omega) hj]⟩
theorem et_tM_n {sz : Nat} {f : Nat → Int32} {th a_ wr en al se ru nd cs un rs : Int32} {dc ds : Int64} {b : Int64} {x : Int32} {h h' : Nat → et_MC} {r : et_R} (hp : et_tM sz f th a_ wr en al se ru nd cs un rs dc ds b x h r h') : (¬ et_tok sz b x ∧ r = .inl (some (.int (-1))) ∧ h' = va_up h 64 (et_Mo 0 (nI sz) a_ wr en al se ru nd cs un rs dc ds)) ∨ (et_tok sz b x ∧ ∃ (N : Nat) (g : Nat → Int32), x = nI N ∧ N ≤ 8 ∧ sz + N ≤ 60 ∧ r = .inl (some (.int (nI (sz + N)))) ∧ h' = va_up (va_up h 65 (.inl (0, 60, .inl g))) 64 (et_Mo 0 (nI (sz + N)) a_ wr en al se ru nd cs un rs dc ds) ∧ (∀ j, j < sz → g j = f j) ∧ ∀ j, j < N → g (sz + j) = et_by b (nI (N - 1 - j))) := by
  rcases hp with z | ⟨N, g, p1, p2, p3, p4, p5, p6⟩
  · exact Or.inl z
  · obtain ⟨N0, q1, q2, q3, q4, q5⟩ := id p2
    have e : nI N = nI N0 := p1.symm.trans q1
    have e2 : nI (sz + N) = nI (sz + N0) := by rw [← nI_add, ← nI_add, e]
    have := nI_mod e (by omega)
    exact Or.inr ⟨p2, N0, g, q1, q3, q4, by rw [p3, e2], by rw [p4, e2], p5, fun j hj => by rw [p6 j (by omega), tok_by e (by omega) hj]⟩
/-- the model's object alone has changed -/
theorem et_JM.obj {th th2 : Int32} {f : Nat → Int32} {sz sz2 : Nat} {wp : Int32} {g : gr} {rc : Nat} {ru : Nat → prul} {p79 : Nat → Int32} {h : Nat → et_MC} {a_ en al se : Int32} {u : Bool} {rs : Int32} {dc ds : Int64} (H : et_JM th f sz wp g rc ru p79 h) : et_JM th2 f sz2 wp g rc ru p79 (va_up h 64 (et_Mo th2 (nI sz2) a_ wp en al se (nI rc) (nI (gN g)) (nI (gC g)) (bI u) rs dc ds)) := by
  obtain ⟨-, h65, hg, ⟨b73, h73⟩, ⟨b74, h74⟩, b75, h75⟩ := H.1
  exact H.fm0 (fun k hk => va_ne (by omega)) ⟨⟨_, _, _, _, _, _, _, _, va_eq⟩, (va_ne (by decide)).trans h65, hg.same (fun k a b => va_ne (by omega)), ⟨_, (va_ne (by decide)).trans h73⟩, ⟨_, (va_ne (by decide)).trans h74⟩, _, (va_ne (by decide)).trans h75⟩
theorem op_type {sc : et_X} {h : Nat → et_MC} {n : Nat} (J : et_J h n) (a1 a2 a3 : Int32) : et_op sc 0 a1 a2 a3 h n et_J := by
  obtain ⟨f, f', sz, wp, th, g, g', σ, ρ, rc, ru, p18, p79, pr, hsz, hff, hE, hM, ⟨o, h84⟩, G, G', I, hp1, hq2⟩ := J
  obtain ⟨hn, f0, ⟨-, ⟨md, k1⟩, k2, k3, k10, k11, k12⟩, hRO, hRP, hCC⟩ := id hE
  obtain ⟨⟨a_, en, al, se, u, rs, dc, ds, m64⟩, m65, mg, m73, m74, m75⟩ := hM.1
  refine ⟨0, 0, _, by decide, by decide, ⟨_, f0⟩, c_E_type (d := 897) (sz := sz) (et_arg a1 a2) a3 f0 hsz k1 k2, fun r h1 n1 hp => ?_⟩
  obtain ⟨hn1, hp⟩ := hp
  subst hn1
  rcases et_tP_n hp with ⟨ht, hr, hh⟩ | ⟨ht, N, t, hx, hN, hN2, hr, hh, t1, t2⟩
  · subst hh
    refine ⟨_, hr, ⟨_, m64⟩, _, c_M_type (d := 898) (sz := sz) (et_arg a1 a2) a3 hsz m64 m65, fun r2 h2 n2 hp2 => ?_⟩
    obtain ⟨hn2, hp2⟩ := hp2
    subst hn2
    rcases et_tM_n hp2 with ⟨ht2, hr2, hh2⟩ | ⟨ht2, -⟩
    · subst hh2
      exact ⟨hr2, f, f', sz, wp, 0, g, g', σ, ρ, rc, ru, p18, p79, pr, hsz, hff, hE.keep (Nat.le_refl _) (fun k hk => va_ne (by omega)), hM.obj, ⟨o, (va_ne (by decide)).trans h84⟩, G, G', I, hp1, hq2⟩
    · exact absurd ht2 ht
  · subst hh
    have fr : ∀ k, k ≠ 1 → k ≠ 2 → va_up (va_up h 2 (.inl (0, 60, .inl t))) 1 (.inr (4, [.ref 2, .int (nI (sz + N)), .int md, .int wp])) k = h k := fun k e1 e2 => (va_ne e1).trans (va_ne e2)
    have hM1 := hM.keep (h' := va_up (va_up h 2 (.inl (0, 60, .inl t))) 1 (.inr (4, [.ref 2, .int (nI (sz + N)), .int md, .int wp]))) (fun k a b => fr k (by omega) (by omega))
    have hE1 : et_JE t (sz + N) wp g rc ru p18 n1 (va_up (va_up h 2 (.inl (0, 60, .inl t))) 1 (.inr (4, [.ref 2, .int (nI (sz + N)), .int md, .int wp]))) := hE.fr (Nat.le_refl _) (fun k hk _ => fr k (by omega) (by omega)) ⟨⟨_, (fr 0 (by decide) (by decide)).trans f0⟩, ⟨md, va_eq⟩, (va_ne (by decide)).trans va_eq, k3.same (fun k a b => fr k (by omega) (by omega)), (fr 10 (by decide) (by decide)).trans k10, (by obtain ⟨va, z⟩ := k11; exact ⟨va, (fr 11 (by decide) (by decide)).trans z⟩), (by obtain ⟨va, z⟩ := k12; exact ⟨va, (fr 12 (by decide) (by decide)).trans z⟩)⟩ (hCC.same (fun k a b => fr k (by omega) (by omega)))
    have l64 := (fr 64 (by decide) (by decide)).trans m64
    have l65 := (fr 65 (by decide) (by decide)).trans m65
    refine ⟨_, hr, ⟨_, l64⟩, _, c_M_type (d := 898) (sz := sz) (et_arg a1 a2) a3 hsz l64 l65, fun r2 h2 n2 hp2 => ?_⟩
    obtain ⟨hn2, hp2⟩ := hp2
    subst hn2
    rcases et_tM_n hp2 with ⟨ht2, -⟩ | ⟨-, N', t', hx', hN', hN2', hr2, hh2, t1', t2'⟩
    · exact absurd ht ht2
    · have eN : N' = N := (nI_eq (by omega) (by omega)).mp (hx'.symm.trans hx)
      subst eN
      subst hh2
      refine ⟨hr2, t, t', sz + N', wp, 0, g, g', σ, ρ, rc, ru, p18, p79, pr, hN2, fun i hi => ?_, hE1.keep (Nat.le_refl _) (fun k hk => (va_ne (by omega)).trans (va_ne (by omega))), ?_, ⟨o, (va_ne (by decide)).trans ((va_ne (by decide)).trans ((fr 84 (by decide) (by decide)).trans h84))⟩, G, G', I, hp1, hq2⟩
      · by_cases z : i < sz
        · rw [t1 i z, t1' i z]; exact hff i z
        · have a := t2 (i - sz) (by omega)
          have b := t2' (i - sz) (by omega)
          rw [show sz + (i - sz) = i by omega] at a b
          rw [a, b]
      · obtain ⟨⟨-, -, q1, ⟨b73, q2⟩, ⟨b74, q3⟩, b75, q4⟩, -⟩ := id hM1
        exact hM1.fm (fun k hk => (va_ne (by omega)).trans (va_ne (by omega))) ⟨⟨_, _, _, _, _, _, _, _, va_eq⟩, (va_ne (by decide)).trans va_eq, q1.same (fun k a b => (va_ne (by omega)).trans (va_ne (by omega))), ⟨_, (va_ne (by decide)).trans ((va_ne (by decide)).trans q2)⟩, ⟨_, (va_ne (by decide)).trans ((va_ne (by decide)).trans q3)⟩, _, (va_ne (by decide)).trans ((va_ne (by decide)).trans q4)⟩ (hM1.2.2.2.2.2.same (fun k a b => (va_ne (by omega)).trans (va_ne (by omega))))
theorem op_wipe {sc : et_X} {h : Nat → et_MC} {n : Nat} (J : et_J h n) (a1 a2 a3 : Int32) : et_op sc 1 a1 a2 a3 h n et_J := by
  obtain ⟨f, f', sz, wp, th, g, g', σ, ρ, rc, ru, p18, p79, pr, hsz, hff, hE, hM, ⟨o, h84⟩, G, G', I, hp1, hq2⟩ := J
  obtain ⟨hn, f0, ⟨-, ⟨md, k1⟩, k2, k3, k10, k11, k12⟩, hRO, hRP, hCC⟩ := id hE
  obtain ⟨⟨a_, en, al, se, u, rs, dc, ds, m64⟩, m65, mg, m73, m74, m75⟩ := hM.1
  refine ⟨0, 0, _, by decide, by decide, ⟨_, f0⟩, c_E_wipe (d := 898) f0 k1, fun r h1 n1 hp => ?_⟩
  obtain ⟨hr, hn1, hh⟩ := hp
  subst hn1 hh
  have fr : ∀ {z : et_MC} (k : Nat), k ≠ 1 → va_up h 1 z k = h k := fun k e1 => va_ne e1
  have hE1 : et_JE f 0 wp g rc ru p18 n1 (va_up h 1 (.inr (4, [.ref 2, .int 0, .int md, .int wp]))) := hE.fr (Nat.le_refl _) (fun k hk _ => fr k (by omega)) ⟨⟨_, (fr 0 (by decide)).trans f0⟩, ⟨md, va_eq⟩, (va_ne (by decide)).trans k2, k3.same (fun k a b => fr k (by omega)), (fr 10 (by decide)).trans k10, (by obtain ⟨va, z⟩ := k11; exact ⟨va, (fr 11 (by decide)).trans z⟩), (by obtain ⟨va, z⟩ := k12; exact ⟨va, (fr 12 (by decide)).trans z⟩)⟩ (hCC.same (fun k a b => fr k (by omega)))
  refine ⟨_, hr, ⟨_, (fr 64 (by decide)).trans m64⟩, _, c_M_wipe (d := 899) ((fr 64 (by decide)).trans m64), fun r2 h2 n2 hp2 => ?_⟩
  obtain ⟨hr2, hn2, hh2⟩ := hp2
  subst hn2 hh2
  exact ⟨hr2, f, f', 0, wp, 0, g, g', σ, ρ, rc, ru, p18, p79, pr, Nat.zero_le _, (fun i hi => absurd hi (Nat.not_lt_zero _)), hE1.keep (Nat.le_refl _) (fun k hk => va_ne (by omega)), (hM.keep (fun k a b => fr k (by omega))).obj, ⟨o, (va_ne (by decide)).trans ((fr 84 (by decide)).trans h84)⟩, G, G', I, hp1, hq2⟩
theorem op_character {sc : et_X} {h : Nat → et_MC} {n : Nat} (J : et_J h n) (a1 a2 a3 : Int32) : et_op sc 2 a1 a2 a3 h n et_J := by
  obtain ⟨f, f', sz, wp, th, g, g', σ, ρ, rc, ru, p18, p79, pr, hsz, hff, hE, hM, ⟨o, h84⟩, G, G', I, hp1, hq2⟩ := J
  obtain ⟨hn, f0, ⟨-, ⟨md, k1⟩, k2, k3, k10, k11, k12⟩, hRO, hRP, hCC⟩ := id hE
  obtain ⟨⟨a_, en, al, se, u, rs, dc, ds, m64⟩, m65, mg, m73, m74, m75⟩ := hM.1
  refine ⟨0, 0, _, by decide, by decide, ⟨_, f0⟩, c_E_character (d := 899) (sz := sz) f0 hsz k1 k2, fun r h1 n1 hp => ?_⟩
  obtain ⟨hr, hn1, hh⟩ := hp
  subst hn1 hh
  refine ⟨_, hr, ⟨_, m64⟩, _, c_M_character (d := 898) (sz := sz) a1 hsz m64 m65, fun r2 h2 n2 hp2 => ?_⟩
  obtain ⟨hr2, hn2, hh2⟩ := hp2
  subst hn2 hh2
  refine ⟨?_, f, f', sz, wp, 0, g, g', σ, ρ, rc, ru, p18, p79, pr, hsz, hff, hE.keep (Nat.le_refl _) (fun k hk => va_ne (by omega)), hM.obj, ⟨o, (va_ne (by decide)).trans h84⟩, G, G', I, hp1, hq2⟩
  rw [hr2]
  by_cases z : a1 < 0 ∨ nI sz ≤ a1
  · rw [if_pos z, if_pos z]
  · rw [if_neg z, if_neg z]
    obtain ⟨j, hj, rfl⟩ := nI_of (fun y => z (Or.inl y))
    have hj2 : j < sz := Nat.lt_of_not_le fun y => z (Or.inr (nI_le y hj))
    rw [nI_clamp hj, hff j hj2]
theorem op_place {sc : et_X} {h : Nat → et_MC} {n : Nat} (J : et_J h n) (a1 a2 a3 : Int32) : et_op sc 3 a1 a2 a3 h n et_J := by
  obtain ⟨f, f', sz, wp, th, g, g', σ, ρ, rc, ru, p18, p79, pr, hsz, hff, hE, hM, ⟨o, h84⟩, G, G', I, hp1, hq2⟩ := J
  obtain ⟨hn, f0, ⟨-, ⟨md, k1⟩, k2, k3, k10, k11, k12⟩, hRO, hRP, hCC⟩ := id hE
  obtain ⟨⟨a_, en, al, se, u, rs, dc, ds, m64⟩, m65, mg, m73, m74, m75⟩ := hM.1
  refine ⟨0, 0, _, by decide, by decide, ⟨_, f0⟩, c_E_place (d := 899) f0 k1, fun r h1 n1 hp => ?_⟩
  obtain ⟨hr, hn1, hh⟩ := hp
  subst hn1 hh
  refine ⟨_, hr, ⟨_, m64⟩, _, c_M_place (d := 899) m64, fun r2 h2 n2 hp2 => ?_⟩
  obtain ⟨hr2, hn2, hh2⟩ := hp2
  subst hn2 hh2
  exact ⟨hr2, f, f', sz, wp, 0, g, g', σ, ρ, rc, ru, p18, p79, pr, hsz, hff, hE.keep (Nat.le_refl _) (fun k hk => va_ne (by omega)), hM.obj, ⟨o, (va_ne (by decide)).trans h84⟩, G, G', I, hp1, hq2⟩
theorem op_nodes {sc : et_X} {h : Nat → et_MC} {n : Nat} (J : et_J h n) (a1 a2 a3 : Int32) : et_op sc 10 a1 a2 a3 h n et_J := by
  obtain ⟨f, f', sz, wp, th, g, g', σ, ρ, rc, ru, p18, p79, pr, hsz, hff, hE, hM, ⟨o, h84⟩, G, G', I, hp1, hq2⟩ := J
  obtain ⟨hn, f0, ⟨-, ⟨md, k1⟩, k2, k3, k10, k11, k12⟩, hRO, hRP, hCC⟩ := id hE
  obtain ⟨⟨a_, en, al, se, u, rs, dc, ds, m64⟩, m65, mg, m73, m74, m75⟩ := hM.1
  obtain ⟨b4, b5, b6, b7, b8, b9, j3, -⟩ := id k3
  refine ⟨0, 0, _, by decide, by decide, ⟨_, f0⟩, c_E_nodes (d := 899) f0 j3, fun r h1 n1 hp => ?_⟩
  obtain ⟨hr, hn1, hh⟩ := hp
  subst hn1 hh
  refine ⟨_, hr, ⟨_, m64⟩, _, c_M_nodes (d := 899) m64, fun r2 h2 n2 hp2 => ?_⟩
  obtain ⟨hr2, hn2, hh2⟩ := hp2
  subst hn2 hh2
  exact ⟨by rw [hr2, show gN (gI g).1 = gN g from rfl, I.n G G'], f, f', sz, wp, 0, g, g', σ, ρ, rc, ru, p18, p79, pr, hsz, hff, hE.keep (Nat.le_refl _) (fun k hk => va_ne (by omega)), hM.obj, ⟨o, (va_ne (by decide)).trans h84⟩, G, G', I, hp1, hq2⟩
theorem op_classes {sc : et_X} {h : Nat → et_MC} {n : Nat} (J : et_J h n) (a1 a2 a3 : Int32) : et_op sc 11 a1 a2 a3 h n et_J := by
  obtain ⟨f, f', sz, wp, th, g, g', σ, ρ, rc, ru, p18, p79, pr, hsz, hff, hE, hM, ⟨o, h84⟩, G, G', I, hp1, hq2⟩ := J
  obtain ⟨hn, f0, ⟨-, ⟨md, k1⟩, k2, k3, k10, k11, k12⟩, hRO, hRP, hCC⟩ := id hE
  obtain ⟨⟨a_, en, al, se, u, rs, dc, ds, m64⟩, m65, mg, m73, m74, m75⟩ := hM.1
  obtain ⟨b4, b5, b6, b7, b8, b9, j3, -⟩ := id k3
  refine ⟨0, 0, _, by decide, by decide, ⟨_, f0⟩, c_E_classes (d := 899) f0 j3, fun r h1 n1 hp => ?_⟩
  obtain ⟨hr, hn1, hh⟩ := hp
  subst hn1 hh
  refine ⟨_, hr, ⟨_, m64⟩, _, c_M_classes (d := 899) m64, fun r2 h2 n2 hp2 => ?_⟩
  obtain ⟨hr2, hn2, hh2⟩ := hp2
  subst hn2 hh2
  exact ⟨by rw [hr2, show gC (gI g).1 = gC g from rfl, I.c], f, f', sz, wp, 0, g, g', σ, ρ, rc, ru, p18, p79, pr, hsz, hff, hE.keep (Nat.le_refl _) (fun k hk => va_ne (by omega)), hM.obj, ⟨o, (va_ne (by decide)).trans h84⟩, G, G', I, hp1, hq2⟩
theorem prOk_up {p : Nat → Int32} {pr : Int32 → Nat} {x y : Int32} (h : prOk p pr) (hx : ¬ et_pt x = -1) (hy : 1 ≤ y ∧ y ≤ 1000000000) : prOk (upd p x.toNatClampNeg y) (fun s => if s = x then y.toNatClampNeg else pr s) := by
  intro s hs
  by_cases e : s = x
  · subst e
    have c1 := Int32.le_iff_toInt_le.mp hy.1
    have c2 := Int32.le_iff_toInt_le.mp hy.2
    have z1 : (1 : Int32).toInt = 1 := rfl
    have z2 : (1000000000 : Int32).toInt = 1000000000 := rfl
    obtain ⟨j, hj, rfl⟩ : ∃ j : Nat, j < 2 ^ 31 ∧ y = nI j := nI_of (fun z => by have := Int32.lt_iff_toInt_lt.mp z; have z0 : (0 : Int32).toInt = 0 := rfl; omega)
    rw [nI_toInt hj] at c1 c2
    show upd p s.toNatClampNeg (nI j) s.toNatClampNeg = nI (if s = s then _ else _) ∧ 1 ≤ (if s = s then _ else _) ∧ (if s = s then _ else _) ≤ 1000000000
    rw [if_pos rfl, pk_us, nI_clamp hj]
    exact ⟨rfl, by omega, by omega⟩
  · show upd p x.toNatClampNeg y s.toNatClampNeg = nI (if s = x then _ else _) ∧ 1 ≤ (if s = x then _ else _) ∧ (if s = x then _ else _) ≤ 1000000000
    rw [if_neg e, pk_un]
    · exact h s hs
    · intro z
      exact e ((pt_nn hs).2.2.trans ((congrArg nI z).trans (pt_nn hx).2.2.symm))
theorem op_price {sc : et_X} {h : Nat → et_MC} {n : Nat} (J : et_J h n) (a1 a2 a3 : Int32) : et_op sc 8 a1 a2 a3 h n et_J := by
  obtain ⟨f, f', sz, wp, th, g, g', σ, ρ, rc, ru, p18, p79, pr, hsz, hff, hE, hM, ⟨o, h84⟩, G, G', I, hp1, hq2⟩ := J
  obtain ⟨hn, f0, hEC, hRO, hRP, hCC⟩ := id hE
  obtain ⟨h17, h18, h19, h20, ⟨tt, ⟨tf, h21, htf⟩, htt⟩, h62⟩ := id hCC
  refine ⟨1, 6, _, by decide, by decide, c_L_price a1 a2 (c_E_price (d := 897) a1 a2 f0 h17 h18) f0 (fun r h' n' hp => by rcases hp with ⟨-, e, -⟩ | ⟨-, e, -⟩; exact Or.inr e; exact Or.inl e), fun r h1 n1 hp => ?_⟩
  rcases hp with ⟨hp, hr⟩ | ⟨k, hp, hr⟩
  · rcases hp with ⟨-, e, -⟩ | ⟨hc, -, hn1, hh⟩
    · cases e
    subst hn1 hh
    have hM1 := hM.keep (h' := va_up h 18 (.inl (0, 127, .inl (upd p18 a1.toNatClampNeg a2)))) (fun k a b => va_ne (by omega))
    obtain ⟨⟨a_, en, al, se, u, rs, dc, ds, m64⟩, m65, mg, m73, m74, m75⟩ := hM1.1
    obtain ⟨m79, m80, m81, m82, m83⟩ := hM1.2.2.2.2.2
    refine ⟨_, hr, ⟨_, m64⟩, _, c_M_price (d := 897) a1 a2 m64 m79, fun r2 h2 n2 hp2 => ?_⟩
    obtain ⟨hr2, hn2, hp2⟩ := hp2
    subst hn2
    rcases hp2 with ⟨hc2, -⟩ | ⟨-, hh2⟩
    · exact absurd hc hc2
    subst hh2
    have fr : ∀ {y z : et_MC} (q : Nat), q ≠ 64 → q ≠ 79 → va_up (va_up (va_up h 18 (.inl (0, 127, .inl (upd p18 a1.toNatClampNeg a2)))) 64 y) 79 z q = va_up h 18 (.inl (0, 127, .inl (upd p18 a1.toNatClampNeg a2))) q := fun q e1 e2 => (va_ne e2).trans (va_ne e1)
    refine ⟨none, hr2, ⟨_, (va_ne (by decide)).trans va_eq⟩, rfl, f, f', sz, wp, 0, g, g', σ, ρ, rc, ru, upd p18 a1.toNatClampNeg a2, upd p79 a1.toNatClampNeg a2, (fun s => if s = a1 then a2.toNatClampNeg else pr s), hsz, hff, ?_, ?_, ⟨o, (fr 84 (by decide) (by decide)).trans ((va_ne (by decide)).trans h84)⟩, G, G', I, prOk_up hp1 hc.1 hc.2, prOk_up hq2 hc.1 hc.2⟩
    · have hE1 : et_JE f sz wp g rc ru (upd p18 a1.toNatClampNeg a2) n2 (va_up h 18 (.inl (0, 127, .inl (upd p18 a1.toNatClampNeg a2)))) := hE.keep2 (fun k hk => va_ne (by omega)) ⟨(va_ne (by decide)).trans h17, va_eq, (by obtain ⟨z, h19⟩ := h19; exact ⟨z, (va_ne (by decide)).trans h19⟩), (by obtain ⟨z, h20⟩ := h20; exact ⟨z, (va_ne (by decide)).trans h20⟩), ⟨tt, ⟨tf, (va_ne (by decide)).trans h21, htf⟩, fun i hi => (va_ne (by omega)).trans (htt i hi)⟩, (by obtain ⟨z, h62⟩ := h62; exact ⟨z, (va_ne (by decide)).trans h62⟩)⟩
      exact hE1.keep (Nat.le_refl _) (fun k hk => fr k (by omega) (by omega))
    · have hM2 := hM1.obj (th2 := 0) (sz2 := sz) (a_ := a_) (en := en) (al := al) (se := se) (u := u) (rs := rs) (dc := dc) (ds := ds)
      obtain ⟨q1, q2, q3, q4, q5, q6, ⟨z1, q7⟩, ⟨z2, q8⟩, ⟨z3, q9⟩, z4, q10⟩ := hM2
      exact ⟨q1.same (fun k a b => va_ne (by omega)), (by obtain ⟨sd, szs, w1, w2, w3⟩ := q2; exact ⟨sd, szs, w1, (va_ne (by decide)).trans w2, (va_ne (by decide)).trans w3⟩), (by obtain ⟨z, w⟩ := q3; exact ⟨z, (va_ne (by decide)).trans w⟩), (by obtain ⟨z, w⟩ := q4; exact ⟨z, (va_ne (by decide)).trans w⟩), (by obtain ⟨z, w⟩ := q5; exact ⟨z, (va_ne (by decide)).trans w⟩), va_eq, ⟨z1, (va_ne (by decide)).trans q7⟩, ⟨z2, (va_ne (by decide)).trans q8⟩, ⟨z3, (va_ne (by decide)).trans q9⟩, z4, (va_ne (by decide)).trans q10⟩
  · rcases hp with ⟨hc, e, hn1, hh⟩ | ⟨-, e, -⟩
    rotate_left
    · cases e
    cases e
    subst hn1 hh
    have hM1 := hM.keep (h' := va_up h n et_void) (fun k a b => va_ne (by omega))
    obtain ⟨⟨a_, en, al, se, u, rs, dc, ds, m64⟩, m65, mg, m73, m74, m75⟩ := hM1.1
    obtain ⟨m79, m80, m81, m82, m83⟩ := hM1.2.2.2.2.2
    refine ⟨_, hr, ⟨_, m64⟩, _, c_M_price (d := 897) a1 a2 m64 m79, fun r2 h2 n2 hp2 => ?_⟩
    obtain ⟨hr2, hn2, hp2⟩ := hp2
    subst hn2
    rcases hp2 with ⟨-, hh2⟩ | ⟨hc2, -⟩
    rotate_left
    · exact absurd hc2 hc
    subst hh2
    exact ⟨none, hr2, ⟨_, va_eq⟩, rfl, f, f', sz, wp, 1, g, g', σ, ρ, rc, ru, p18, p79, pr, hsz, hff, (hE.keep (n' := n + 1) (Nat.le_succ _) (fun k hk => va_ne (by omega))).keep (Nat.le_refl _) (fun k hk => va_ne (by omega)), hM1.obj, ⟨o, (va_ne (by decide)).trans ((va_ne (by omega)).trans h84)⟩, G, G', I, hp1, hq2⟩
