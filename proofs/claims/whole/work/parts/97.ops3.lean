/-! ===== one call on both sides: cost, best, rounds, rule ===== -/
theorem bst_of {g : gr} {p : Nat → Int32} {pr : Int32 → Nat} (G : gG 40 g) (hp : prOk p pr) : ∃ v, bst g pr v ∧ ∀ c, c < gC g → tOk (v c) :=
  bst_ex G.1 (fun n hn => (hp _ (gAr_pt G.2.2.2 hn)).2.1) (fun n hn => by have := (pt_nn (gAr_pt G.2.2.2 hn)).2.1; omega)
theorem cvL_iso {σ ρ : Nat → Nat} {g g' : gr} {p : Nat → Int32} {pr : Int32 → Nat} {v v' : Nat → tri} (I : gIso σ ρ g g') (G : gG 40 g) (G' : gG 40 g') (hp : prOk p pr) (hv : bst g pr v) (hv' : bst g' pr v') {lk : Nat} (hl : lk ≤ gC g) : cvL v' (up σ lk) = cvL v lk := by
  have key := bst_iso I G.1 G'.1 (fun n hn => (hp _ (gAr_pt G.2.2.2 hn)).2.1) hv hv'
  cases lk with
  | zero => rfl
  | succ c =>
    show (if σ c + 1 = 0 then (-1 : Int64) else if kM < (v' (σ c + 1 - 1)).1 then -3 else lN (v' (σ c + 1 - 1)).1) = (if c + 1 = 0 then -1 else if kM < (v (c + 1 - 1)).1 then -3 else lN (v (c + 1 - 1)).1)
    rw [if_neg (Nat.succ_ne_zero _), if_neg (Nat.succ_ne_zero _), Nat.add_sub_cancel, Nat.add_sub_cancel, key c hl]
theorem op_cost {sc : et_X} {h : Nat → et_MC} {n : Nat} (J : et_J h n) (a1 a2 a3 : Int32) : et_op sc 13 a1 a2 a3 h n et_J := by
  obtain ⟨f, f', sz, wp, th, g, g', σ, ρ, rc, ru, p18, p79, pr, hsz, hff, hE, hM, ⟨o, h84⟩, G, G', I, hp1, hq2⟩ := J
  obtain ⟨hn, f0, hEC, -, -, hCC⟩ := id hE
  obtain ⟨v, hv, hvo⟩ := bst_of G hp1
  obtain ⟨v', hv', hvo'⟩ := bst_of G' hq2
  refine ⟨1, 6, _, by decide, by decide, c_L_cost (c_E_cost (d := 891) hn hsz G hEC hCC hp1 hv hvo) f0 (fun r h' n' hp => ?_), fun r h1 n1 hp => ?_⟩
  · obtain ⟨fr, ⟨-, e, -⟩ | ⟨-, e, -⟩⟩ := hp
    · exact Or.inr e
    · exact Or.inl ⟨_, o, e, (fr 84 (by omega) (by omega)).trans h84⟩
  rcases hp with ⟨w, h0, ⟨fr, hP⟩, hr, fr84, gg, k84, kg⟩ | ⟨k, ⟨fr, hP⟩, hr⟩
  · rcases hP with ⟨-, e, -⟩ | ⟨q0, e, hn1, hEC1, hCC1⟩
    · cases e
    cases e
    subst hn1
    obtain ⟨mm, hw, nv⟩ := fw_term q0
    have JE1 := (hE.fr (Nat.le_refl _) fr hEC1 hCC1).keep (h' := h1) (Nat.le_refl _) (fun k hk => fr84 k (by omega))
    have JM1 := hM.keep (h' := h1) (fun k a b => (fr84 k (by omega)).trans (fr k (by omega) (by omega)))
    obtain ⟨fs, o64⟩ := JM1.o64
    refine ⟨_, hr, ⟨_, o64⟩, _, c_M_cost (d := 894) hsz G' JM1.1 JM1.2.2.2.2.2 hq2 hv' hvo', fun r2 h2 n2 hp2 => ?_⟩
    obtain ⟨hn2, fm, hMB, hp2⟩ := hp2
    subst hn2
    rw [fw_0 hff, sg_same hff (Nat.le_refl _) (Nat.le_refl _)] at hp2
    rcases hp2 with ⟨z, -⟩ | ⟨-, er, hME⟩
    · exact absurd q0 z
    have l1 := gLook_iso (fr := 0) I G G' hw (fun j _ b => nv j b)
    have b1 := gLook_le (fr := 0) G hw (fun j _ b => nv j b)
    rw [Nat.sub_zero] at l1 b1
    have JM2 := JM1.fm fm hME hMB
    exact ⟨_, er, JM2.o64, ⟨_, rfl, fun _ => ⟨gg, (fm 84 (by omega)).trans k84, by rw [kg, l1, cvL_iso I G G' hp1 hv hv' b1]⟩⟩, f, f', 0, wp, 0, g, g', σ, ρ, rc, ru, p18, p79, pr, Nat.zero_le _, (fun i hi => absurd hi (Nat.not_lt_zero _)), JE1.keep (Nat.le_refl _) (fun k hk => fm k (by omega)), JM2, ⟨gg, (fm 84 (by omega)).trans k84⟩, G, G', I, hp1, hq2⟩
  · rcases hP with ⟨q0, e, hn1, hEC1, hCC1⟩ | ⟨-, e, -⟩
    · cases e
      subst hn1
      have JE1 := hE.fr (n' := n + 1) (Nat.le_succ _) fr hEC1 hCC1
      have JM1 := hM.keep (h' := h1) (fun k a b => fr k (by omega) (by omega))
      obtain ⟨fs, o64⟩ := JM1.o64
      refine ⟨_, hr, ⟨_, o64⟩, _, c_M_cost (d := 894) hsz G' JM1.1 JM1.2.2.2.2.2 hq2 hv' hvo', fun r2 h2 n2 hp2 => ?_⟩
      obtain ⟨hn2, fm, hMB, hp2⟩ := hp2
      subst hn2
      rw [fw_0 hff] at hp2
      rcases hp2 with ⟨-, er, hME⟩ | ⟨z, -⟩
      rotate_left
      · exact absurd z q0
      have JM2 := JM1.fm fm hME hMB
      exact ⟨_, er, JM2.o64, ⟨_, rfl, fun z => absurd z (by decide)⟩, f, f', sz, _, 1, g, g', σ, ρ, rc, ru, p18, p79, pr, hsz, hff, JE1.keep (Nat.le_refl _) (fun k hk => fm k (by omega)), JM2, ⟨o, (fm 84 (by omega)).trans ((fr 84 (by omega) (by omega)).trans h84)⟩, G, G', I, hp1, hq2⟩
    · cases e
theorem op_best {sc : et_X} {h : Nat → et_MC} {n : Nat} (J : et_J h n) (a1 a2 a3 : Int32) : et_op sc 14 a1 a2 a3 h n et_J := by
  obtain ⟨f, f', sz, wp, th, g, g', σ, ρ, rc, ru, p18, p79, pr, hsz, hff, hE, hM, ⟨o, h84⟩, G, G', I, hp1, hq2⟩ := J
  obtain ⟨hn, f0, hEC, -, -, hCC⟩ := id hE
  obtain ⟨v, hv, hvo⟩ := bst_of G hp1
  obtain ⟨v', hv', hvo'⟩ := bst_of G' hq2
  have key := bst_iso I G.1 G'.1 (fun n hn => (hp1 _ (gAr_pt G.2.2.2 hn)).2.1) hv hv'
  refine ⟨1, 6, _, by decide, by decide, c_L_best (c_E_best (d := 891) hn hsz G hEC hCC hp1 hv hvo) f0 (fun r h' n' hp => ?_), fun r h1 n1 hp => ?_⟩
  · obtain ⟨fr, ⟨-, e, -⟩ | ⟨-, -, -, ⟨⟨-, e⟩ | ⟨-, -, e⟩ | ⟨-, -, -, e⟩, -⟩ | ⟨-, -, -, e, -⟩⟩⟩ := hp
    · exact Or.inr (Or.inl e)
    · exact Or.inl ⟨_, o, e, (fr 84 (by omega) (by omega)).trans h84⟩
    · exact Or.inl ⟨_, o, e, (fr 84 (by omega) (by omega)).trans h84⟩
    · exact Or.inl ⟨_, o, e, (fr 84 (by omega) (by omega)).trans h84⟩
    · exact Or.inl ⟨_, o, e, (fr 84 (by omega) (by omega)).trans h84⟩
  rcases hp with ⟨w, h0, ⟨fr, hP⟩, hr, fr84, gg, k84, kg⟩ | ⟨k, ⟨fr, hP⟩, hr⟩
  · rcases hP with ⟨-, e, -⟩ | ⟨q0, hn1, hCC1, hres⟩
    · cases e
    subst hn1
    obtain ⟨mm, hw, nv⟩ := fw_term q0
    have JM1 := hM.keep (h' := h1) (fun k a b => (fr84 k (by omega)).trans (fr k (by omega) (by omega)))
    obtain ⟨fs, o64⟩ := JM1.o64
    have l1 := gLook_iso (fr := 0) I G G' hw (fun j _ b => nv j b)
    have b1 := gLook_le (fr := 0) G hw (fun j _ b => nv j b)
    rw [Nat.sub_zero] at l1 b1
    refine ⟨_, hr, ⟨_, o64⟩, _, c_M_best (d := 894) hsz G' JM1.1 JM1.2.2.2.2.2 hq2 hv' hvo', fun r2 h2 n2 hp2 => ?_⟩
    obtain ⟨hn2, fm, hMB, hp2⟩ := hp2
    subst hn2
    rw [fw_0 hff, sg_same hff (Nat.le_refl _) (Nat.le_refl _), l1] at hp2
    rcases hp2 with ⟨z, -⟩ | ⟨-, hres2⟩
    · exact absurd q0 z
    have kk : ∀ lk, lk ≤ gC g → lk ≠ 0 → v' (up σ lk - 1) = v (lk - 1) := by
      intro lk h1 h2
      cases lk with
      | zero => exact absurd rfl h2
      | succ c =>
        show v' (σ c + 1 - 1) = v (c + 1 - 1)
        rw [Nat.add_sub_cancel, Nat.add_sub_cancel, key c h1]
    generalize gLook (gI g) (sg f sz sz) = lk at *
    have fin0 : et_EC f 0 wp (gI g) h0 → et_ME 0 f' 0 wp (nI rc) g' h2 → r2 = .inl (some (.int w)) → ∃ v, r2 = .inl v ∧ (∃ fs, h2 64 = .inr (7, .int 0 :: fs)) ∧ et_anI v 0 h2 ∧ et_J h2 n2 := fun hEC1 hME er => by
      have JE1 := (hE.fr (Nat.le_refl _) fr hEC1 hCC1).keep (h' := h1) (Nat.le_refl _) (fun k hk => fr84 k (by omega))
      have JM2 := JM1.fm fm hME hMB
      exact ⟨_, er, JM2.o64, ⟨_, rfl, fun _ => ⟨gg, (fm 84 (by omega)).trans k84, kg⟩⟩, f, f', 0, wp, 0, g, g', σ, ρ, rc, ru, p18, p79, pr, Nat.zero_le _, (fun i hi => absurd hi (Nat.not_lt_zero _)), JE1.keep (Nat.le_refl _) (fun k hk => fm k (by omega)), JM2, ⟨gg, (fm 84 (by omega)).trans k84⟩, G, G', I, hp1, hq2⟩
    rcases hres with ⟨hr1, hEC1⟩ | ⟨y1, y2, y3, e, f1, hEC1, y4, y5⟩
    · rcases hres2 with ⟨hr2, hME⟩ | ⟨z1, z2, z3, er, f2, hME, z4, z5⟩
      · refine fin0 hEC1 hME ?_
        rcases hr1 with ⟨x1, e⟩ | ⟨x1, x2, e⟩ | ⟨x1, x2, x3, e⟩
        · cases e
          rcases hr2 with ⟨-, e2⟩ | ⟨w1, -⟩ | ⟨w1, -⟩
          · exact e2
          · exact absurd (up_eq0.mpr x1) w1
          · exact absurd (up_eq0.mpr x1) w1
        · cases e
          rw [kk lk b1 x1] at hr2
          rcases hr2 with ⟨w1, -⟩ | ⟨-, -, e2⟩ | ⟨-, w2, -⟩
          · exact absurd (up_eq0.mp w1) x1
          · exact e2
          · omega
        · cases e
          rw [kk lk b1 x1] at hr2
          rcases hr2 with ⟨w1, -⟩ | ⟨-, w2, -⟩ | ⟨-, -, -, e2⟩
          · exact absurd (up_eq0.mp w1) x1
          · omega
          · exact e2
      · exfalso
        have z0 : lk ≠ 0 := fun q => z1 (up_eq0.mpr q)
        rw [kk lk b1 z0] at z2 z3
        rcases hr1 with ⟨x1, -⟩ | ⟨-, x2, -⟩ | ⟨-, -, x3, -⟩
        · exact z0 x1
        · omega
        · omega
    · rcases hres2 with ⟨hr2, -⟩ | ⟨z1, z2, z3, er, f2, hME, z4, z5⟩
      · exfalso
        rw [kk lk b1 y1] at hr2
        rcases hr2 with ⟨x1, -⟩ | ⟨-, x2, -⟩ | ⟨-, -, x3, -⟩
        · exact y1 (up_eq0.mp x1)
        · omega
        · omega
      · rw [kk lk b1 y1] at er hME z4 z5
        cases e
        have JE1 := (hE.fr (Nat.le_refl _) fr hEC1 hCC1).keep (h' := h1) (Nat.le_refl _) (fun k hk => fr84 k (by omega))
        have JM2 := JM1.fm fm hME hMB
        exact ⟨_, er, JM2.o64, ⟨_, rfl, fun _ => ⟨gg, (fm 84 (by omega)).trans k84, kg⟩⟩, f1, f2, _, wp, 0, g, g', σ, ρ, rc, ru, p18, p79, pr, y3, num_inj z4 y4 (z5.trans y5.symm), JE1.keep (Nat.le_refl _) (fun k hk => fm k (by omega)), JM2, ⟨gg, (fm 84 (by omega)).trans k84⟩, G, G', I, hp1, hq2⟩
  · rcases hP with ⟨q0, e, hn1, hEC1, hCC1⟩ | ⟨-, -, -, ⟨⟨-, e⟩ | ⟨-, -, e⟩ | ⟨-, -, -, e⟩, -⟩ | ⟨-, -, -, e, -⟩⟩
    · cases e
      subst hn1
      have JE1 := hE.fr (n' := n + 1) (Nat.le_succ _) fr hEC1 hCC1
      have JM1 := hM.keep (h' := h1) (fun k a b => fr k (by omega) (by omega))
      obtain ⟨fs, o64⟩ := JM1.o64
      refine ⟨_, hr, ⟨_, o64⟩, _, c_M_best (d := 894) hsz G' JM1.1 JM1.2.2.2.2.2 hq2 hv' hvo', fun r2 h2 n2 hp2 => ?_⟩
      obtain ⟨hn2, fm, hMB, hp2⟩ := hp2
      subst hn2
      rw [fw_0 hff] at hp2
      rcases hp2 with ⟨-, er, hME⟩ | ⟨z, -⟩
      rotate_left
      · exact absurd z q0
      have JM2 := JM1.fm fm hME hMB
      exact ⟨_, er, JM2.o64, ⟨_, rfl, fun z => absurd z (by decide)⟩, f, f', sz, _, 1, g, g', σ, ρ, rc, ru, p18, p79, pr, hsz, hff, JE1.keep (Nat.le_refl _) (fun k hk => fm k (by omega)), JM2, ⟨o, (fm 84 (by omega)).trans ((fr 84 (by omega) (by omega)).trans h84)⟩, G, G', I, hp1, hq2⟩
    · cases e
    · cases e
    · cases e
    · cases e
theorem op_rounds {sc : et_X} {h : Nat → et_MC} {n : Nat} (J : et_J h n) (a1 a2 a3 : Int32) : et_op sc 9 a1 a2 a3 h n et_J := by
  obtain ⟨f, f', sz, wp, th, g, g', σ, ρ, rc, ru, p18, p79, pr, hsz, hff, hE, hM, ⟨o, h84⟩, G, G', I, hp1, hq2⟩ := J
  obtain ⟨hn, f0, ⟨-, ⟨md, k1⟩, k2, k3, k10, k11, k12⟩, hRO, ⟨kr, rr, hRP, hkr⟩, hCC⟩ := id hE
  have hro : rusOk ru rc := fun r hr => (hRP.2.2 r hr).2.2.1
  refine ⟨1, 6, _, by decide, by decide, c_L_rounds a1 (c_E_rounds (d := 885) a1 f0 G k3 hRO hRP) f0 (fun r h' n' hp => ?_), fun r h1 n1 hp => ?_⟩
  · rcases hp with ⟨-, e, -⟩ | ⟨-, -, fr, -, g1, v, e, -⟩
    · exact Or.inr (Or.inl e)
    · exact Or.inl ⟨_, o, e, (fr 84 (by omega)).trans h84⟩
  rcases hp with ⟨w, h0, hP, hr, fr84, gg, k84, kg⟩ | ⟨k, hP, hr⟩
  · rcases hP with ⟨-, e, -⟩ | ⟨hx, hn1, fr, hRO1, g1, v, e, rds, G1, hgh⟩
    · cases e
    cases e
    subst hn1
    have JE0 : et_JE f sz wp g1 rc ru p18 n1 h0 := ⟨hn, (fr 0 (by omega)).trans f0, ⟨⟨_, (fr 0 (by omega)).trans f0⟩, ⟨md, (fr 1 (by omega)).trans k1⟩, (fr 2 (by omega)).trans k2, hgh, (fr 10 (by omega)).trans k10, hRO1.2.1, hRO1.2.2.1⟩, hRO1, ⟨kr, rr, hRP.same hkr (fun k hk => fr k (by omega)), hkr⟩, hCC.same (fun k a b => fr k (by omega))⟩
    have JE1 := JE0.keep (h' := h1) (Nat.le_refl _) (fun k hk => fr84 k (by omega))
    have JM1 := hM.keep (h' := h1) (fun k a b => (fr84 k (by omega)).trans (fr k (by omega)))
    obtain ⟨⟨⟨a_, en, al, se, u, rs, dc, ds, m64⟩, m65, mg, m73, m74, m75⟩, ⟨sd, szs, hR, m66, m67⟩, m76, m77, m78, mMB⟩ := id JM1
    refine ⟨_, hr, ⟨_, m64⟩, _, c_M_rounds (d := 893) a1 u G' hR m66 m67 m64 mg m73 m74 m75 m76 m77 m78, fun r2 h2 n2 hp2 => ?_⟩
    obtain ⟨hn2, fm, ⟨c73, c74, c75, c76, c77, c78⟩, u2, rs2, hres⟩ := hp2
    subst hn2
    rcases hres with ⟨z, -⟩ | ⟨-, g1', v', mds, G1', er, l64, mg2⟩
    · exact absurd hx z
    obtain ⟨ev, -, -, τ, μ, I2⟩ := mds_eq hro I G G' rds mds
    have JM2 : et_JM 0 f' sz wp g1' rc ru p79 h2 := ⟨⟨⟨_, _, _, _, _, _, _, _, l64⟩, (fm 65 (by omega)).trans m65, mg2, c73, c74, c75⟩, ⟨sd, szs, hR, (fm 66 (by omega)).trans m66, (fm 67 (by omega)).trans m67⟩, c76, c77, c78, mMB.same (fun k a b => fm k (by omega))⟩
    exact ⟨_, er, JM2.o64, ⟨_, rfl, fun _ => ⟨gg, (fm 84 (by omega)).trans k84, by rw [kg, ev]⟩⟩, f, f', sz, wp, 0, g1, g1', τ, μ, rc, ru, p18, p79, pr, hsz, hff, JE1.keep (Nat.le_refl _) (fun k hk => fm k (by omega)), JM2, ⟨gg, (fm 84 (by omega)).trans k84⟩, G1, G1', I2, hp1, hq2⟩
  · rcases hP with ⟨hx, e, hn1, hh⟩ | ⟨-, -, -, -, g1, v, e, -⟩
    · cases e
      subst hn1 hh
      have JE1 := hE.keep (n' := n + 1) (h' := va_up h n et_void) (Nat.le_succ _) (fun k hk => va_ne (by omega))
      have JM1 := hM.keep (h' := va_up h n et_void) (fun k a b => va_ne (by omega))
      obtain ⟨⟨⟨a_, en, al, se, u, rs, dc, ds, m64⟩, m65, mg, m73, m74, m75⟩, ⟨sd, szs, hR, m66, m67⟩, m76, m77, m78, mMB⟩ := id JM1
      refine ⟨_, hr, ⟨_, m64⟩, _, c_M_rounds (d := 893) a1 u G' hR m66 m67 m64 mg m73 m74 m75 m76 m77 m78, fun r2 h2 n2 hp2 => ?_⟩
      obtain ⟨hn2, fm, ⟨c73, c74, c75, c76, c77, c78⟩, u2, rs2, hres⟩ := hp2
      subst hn2
      rcases hres with ⟨-, er, l64, mg2⟩ | ⟨z, -⟩
      rotate_left
      · exact absurd z hx
      have JM2 : et_JM 1 f' sz wp g' rc ru p79 h2 := ⟨⟨⟨_, _, _, _, _, _, _, _, l64⟩, (fm 65 (by omega)).trans m65, mg2, c73, c74, c75⟩, ⟨sd, szs, hR, (fm 66 (by omega)).trans m66, (fm 67 (by omega)).trans m67⟩, c76, c77, c78, mMB.same (fun k a b => fm k (by omega))⟩
      exact ⟨_, er, JM2.o64, ⟨_, rfl, fun z => absurd z (by decide)⟩, f, f', sz, wp, 1, g, g', σ, ρ, rc, ru, p18, p79, pr, hsz, hff, JE1.keep (Nat.le_refl _) (fun k hk => fm k (by omega)), JM2, ⟨o, (fm 84 (by omega)).trans ((va_ne (by omega)).trans h84)⟩, G, G', I, hp1, hq2⟩
    · cases e
theorem op_rule {sc : et_X} {h : Nat → et_MC} {n : Nat} (J : et_J h n) (a1 a2 a3 : Int32) : et_op sc 4 a1 a2 a3 h n et_J := by
  obtain ⟨f, f', sz, wp, th, g, g', σ, ρ, rc, ru, p18, p79, pr, hsz, hff, hE, hM, ⟨o, h84⟩, G, G', I, hp1, hq2⟩ := J
  obtain ⟨hn, f0, hEC, hRO, ⟨kr, rr, hRP, hkr⟩, hCC⟩ := id hE
  have hrc := hRP.1
  refine ⟨4, 78, _, by decide, by decide, c_L_rule (c_E_rule (d := 893) hn hsz hEC rc hrc f0 hRP.2.1) f0 (fun r h' n' hp => ?_), fun r h1 n1 hp => ?_⟩
  · rcases hp with ⟨-, e, -⟩ | ⟨-, -, e, -⟩ | ⟨-, -, e, -, fr, -⟩
    · exact Or.inr (Or.inl e)
    · exact Or.inr (Or.inr ⟨rfl, e⟩)
    · exact Or.inl ⟨_, o, e, (fr 84 (by omega) (by omega) (by decide)).trans h84⟩
  rcases hp with ⟨w, h0, hP, hr, fr84, gg, k84, kg⟩ | ⟨k, hP, hr⟩
  · rcases hP with ⟨-, e, -⟩ | ⟨-, -, e, -⟩ | ⟨q0, hlt, e, hn1, fr, j0, j63, hEC1, e1, row, hq, rok, hrow, hRU⟩
    · cases e
    · cases e
    cases e
    subst hn1
    have JE0 : et_JE f 0 wp g (rc + 1) (gUp ru rc (row, e1, sz)) p18 (n + 4) h0 := by
      obtain ⟨-, -, -, -, z10, z11, z12⟩ := id hEC1
      obtain ⟨-, -, -, ⟨c13, z13⟩, ⟨c14, z14⟩, ⟨c15, z15⟩, c16, z16⟩ := hRO
      refine ⟨by omega, j0, hEC1, ⟨z10, z11, z12, ⟨c13, (fr 13 (by omega) (by omega) (by decide)).trans z13⟩, ⟨c14, (fr 14 (by omega) (by omega) (by decide)).trans z14⟩, ⟨c15, (fr 15 (by omega) (by omega) (by decide)).trans z15⟩, c16, (fr 16 (by omega) (by omega) (by decide)).trans z16⟩, ⟨gUp kr rc n, va_up rr rc (some n), ⟨by omega, j63, fun r hr => ?_⟩, fun r hr => ?_⟩, hCC.same (fun k a b => fr k (by omega) (by omega) (by omega))⟩
      · by_cases z : r = rc
        · subst z
          rw [gUp_s, gUp_s, va_eq]
          exact ⟨rfl, hn, rOk_same hrow rok, hRU⟩
        · rw [gUp_n _ _ z, gUp_n _ _ z, va_ne z]
          obtain ⟨x1, x2, x3, x4⟩ := hRP.2.2 r (by omega)
          have := hkr r (by omega)
          exact ⟨x1, x2, x3, x4.same2 (fun q a b => fr q (by omega) (by omega) (by omega))⟩
      · by_cases z : r = rc
        · rw [z, gUp_s]; exact Nat.le_refl _
        · rw [gUp_n _ _ z]; have := hkr r (by omega); omega
    have JE1 := JE0.keep (h' := h1) (Nat.le_refl _) (fun k hk => fr84 k (by omega))
    have JM1 := hM.keep (h' := h1) (fun k a b => (fr84 k (by omega)).trans (fr k (by omega) (by omega) (by omega)))
    obtain ⟨hME1, ⟨sd, szs, hR, m66, m67⟩, m76, m77, m78, mMB⟩ := id JM1
    obtain ⟨fs, o64⟩ := JM1.o64
    refine ⟨_, hr, ⟨_, o64⟩, _, c_M_rule (d := 895) hsz hME1 hR m66 m67, fun r2 h2 n2 hp2 => ?_⟩
    obtain ⟨hn2, fm, hp2⟩ := hp2
    subst hn2
    rw [fw_0 hff] at hp2
    rcases hp2 with ⟨z, -⟩ | ⟨-, z, -⟩ | ⟨-, -, er, hME, e2, sd2, szs2, hq2', -, l66, l67, hMR⟩
    · exact absurd q0 z
    · omega
    have ee : e2 = e1 := by omega
    subst ee
    have JM2 : et_JM 0 f' 0 wp g' (rc + 1) (gUp ru rc (row, e2, sz)) p79 h2 := ⟨hME, ⟨sd2, szs2, hMR row (fun i hi => (hrow i hi).trans (hff i hi).symm), l66, l67⟩, (by obtain ⟨b, z⟩ := m76; exact ⟨b, (fm 76 (by omega)).trans z⟩), (by obtain ⟨b, z⟩ := m77; exact ⟨b, (fm 77 (by omega)).trans z⟩), (by obtain ⟨b, z⟩ := m78; exact ⟨b, (fm 78 (by omega)).trans z⟩), mMB.same (fun k a b => fm k (by omega))⟩
    exact ⟨_, er, JM2.o64, ⟨_, rfl, fun _ => ⟨gg, (fm 84 (by omega)).trans k84, kg⟩⟩, f, f', 0, wp, 0, g, g', σ, ρ, rc + 1, _, p18, p79, pr, Nat.zero_le _, (fun i hi => absurd hi (Nat.not_lt_zero _)), JE1.keep (Nat.le_refl _) (fun k hk => fm k (by omega)), JM2, ⟨gg, (fm 84 (by omega)).trans k84⟩, G, G', I, hp1, hq2⟩
  · rcases hP with ⟨q0, e, hn1, fr, hEC1⟩ | ⟨q0, hge, e, hn1, fr, hEC1⟩ | ⟨-, -, e, -⟩
    · cases e
      subst hn1
      have JE1 := hE.fr0 (n' := n + 1) (Nat.le_succ _) fr hEC1
      have JM1 := hM.keep (h' := h1) (fun k a b => fr k (by omega) (by omega))
      obtain ⟨hME1, ⟨sd, szs, hR, m66, m67⟩, m76, m77, m78, mMB⟩ := id JM1
      obtain ⟨fs, o64⟩ := JM1.o64
      refine ⟨_, hr, ⟨_, o64⟩, _, c_M_rule (d := 895) hsz hME1 hR m66 m67, fun r2 h2 n2 hp2 => ?_⟩
      obtain ⟨hn2, fm, hp2⟩ := hp2
      subst hn2
      rw [fw_0 hff] at hp2
      rcases hp2 with ⟨-, er, l66, l67, hME⟩ | ⟨z, -⟩ | ⟨z, -⟩
      rotate_left
      · exact absurd z q0
      · exact absurd z q0
      have JM2 : et_JM 1 f' sz (eI (fwN f true true sz 0 1 0).1) g' rc ru p79 h2 := ⟨hME, ⟨sd, szs, hR, l66.trans m66, l67.trans m67⟩, (by obtain ⟨b, z⟩ := m76; exact ⟨b, (fm 76 (by omega)).trans z⟩), (by obtain ⟨b, z⟩ := m77; exact ⟨b, (fm 77 (by omega)).trans z⟩), (by obtain ⟨b, z⟩ := m78; exact ⟨b, (fm 78 (by omega)).trans z⟩), mMB.same (fun k a b => fm k (by omega))⟩
      exact ⟨_, er, JM2.o64, ⟨_, rfl, fun z => absurd z (by decide)⟩, f, f', sz, _, 1, g, g', σ, ρ, rc, ru, p18, p79, pr, hsz, hff, JE1.keep (Nat.le_refl _) (fun k hk => fm k (by omega)), JM2, ⟨o, (fm 84 (by omega)).trans ((fr 84 (by omega) (by omega)).trans h84)⟩, G, G', I, hp1, hq2⟩
    · cases e
      subst hn1
      have JE1 := hE.fr0 (n' := n + 1) (Nat.le_succ _) fr hEC1
      have JM1 := hM.keep (h' := h1) (fun k a b => fr k (by omega) (by omega))
      obtain ⟨hME1, ⟨sd, szs, hR, m66, m67⟩, m76, m77, m78, mMB⟩ := id JM1
      obtain ⟨fs, o64⟩ := JM1.o64
      refine ⟨_, hr, ⟨_, o64⟩, _, c_M_rule (d := 895) hsz hME1 hR m66 m67, fun r2 h2 n2 hp2 => ?_⟩
      obtain ⟨hn2, fm, hp2⟩ := hp2
      subst hn2
      rw [fw_0 hff] at hp2
      rcases hp2 with ⟨z, -⟩ | ⟨-, -, er, l66, l67, hME⟩ | ⟨-, z, -⟩
      · exact absurd q0 z
      rotate_left
      · omega
      have JM2 : et_JM 2 f' sz wp g' rc ru p79 h2 := ⟨hME, ⟨sd, szs, hR, l66.trans m66, l67.trans m67⟩, (by obtain ⟨b, z⟩ := m76; exact ⟨b, (fm 76 (by omega)).trans z⟩), (by obtain ⟨b, z⟩ := m77; exact ⟨b, (fm 77 (by omega)).trans z⟩), (by obtain ⟨b, z⟩ := m78; exact ⟨b, (fm 78 (by omega)).trans z⟩), mMB.same (fun k a b => fm k (by omega))⟩
      exact ⟨_, er, JM2.o64, ⟨_, rfl, fun z => absurd z (by decide)⟩, f, f', sz, wp, 2, g, g', σ, ρ, rc, ru, p18, p79, pr, hsz, hff, JE1.keep (Nat.le_refl _) (fun k hk => fm k (by omega)), JM2, ⟨o, (fm 84 (by omega)).trans ((fr 84 (by omega) (by omega)).trans h84)⟩, G, G', I, hp1, hq2⟩
    · cases e
