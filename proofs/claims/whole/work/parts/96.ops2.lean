/-! ===== one call on both sides: add, unite, same, members ===== -/
theorem two_cnt {σ ρ m1 m2 : Nat → Nat} {g g' : gr} {f : Nat → Int32} {e to a b a' b' : Nat} {x1 x2 y1 y2 : gx} (I : gIso σ ρ g g') (G : gG 40 g) (G' : gG 40 g') (hw1 : wf m1 f 0 e) (hw2 : wf m2 f (e + 1) to) (nv1 : ∀ j, j < e → ¬ et_isv (f j)) (nv2 : ∀ j, e < j → j < to → ¬ et_isv (f j)) (h1 : gEval true 40 (fun _ => 0) (sg f e (e - 0)) (gI g) = some ([a], x1)) (h2 : gEval true 40 (fun _ => 0) (sg f to (to - (e + 1))) x1 = some ([b], x2)) (h3 : gEval true 1000 (fun _ => 0) (sg f e (e - 0)) (gI g') = some ([a'], y1)) (h4 : gEval true 1000 (fun _ => 0) (sg f to (to - (e + 1))) y1 = some ([b'], y2)) : gN x2.1 = gN y2.1 ∧ gN x2.1 ≤ 40 := by
  have k1 := gEval_mono (lim' := 1000) (by omega) h1
  have k2 := gEval_mono (lim' := 1000) (by omega) h2
  have v1 : evs 1000 [(sg f e (e - 0), fun _ => 0), (sg f to (to - (e + 1)), fun _ => 0)] g x2.1 := evs.cons (x := gI g) (it := (sg f e (e - 0), fun _ => 0)) rfl k1 (evs.cons (it := (sg f to (to - (e + 1)), fun _ => 0)) rfl k2 (evs.nil _))
  have v2 : evs 1000 [(sg f e (e - 0), fun _ => 0), (sg f to (to - (e + 1)), fun _ => 0)] g' y2.1 := evs.cons (x := gI g') (it := (sg f e (e - 0), fun _ => 0)) rfl h3 (evs.cons (it := (sg f to (to - (e + 1)), fun _ => 0)) rfl h4 (evs.nil _))
  have hi : ∀ {C : Nat} (it : git), it ∈ [((sg f e (e - 0), fun _ => 0) : git), (sg f to (to - (e + 1)), fun _ => 0)] → iOk C it := fun it hi => by
    rcases List.mem_cons.mp hi with rfl | hi
    · exact one_ok hw1 (fun j _ b => nv1 j b)
    · obtain rfl := List.mem_singleton.mp hi; exact one_ok hw2 (fun j a b => nv2 j a b)
  have hc : ∀ {σ : Nat → Nat}, gCor σ [((sg f e (e - 0), fun _ => 0) : git), (sg f to (to - (e + 1)), fun _ => 0)] [(sg f e (e - 0), fun _ => 0), (sg f to (to - (e + 1)), fun _ => 0)] := cor_nv fun it hi => by
    rcases List.mem_cons.mp hi with rfl | hi
    · exact sg_nv (Nat.zero_le _) (fun j _ b => nv1 j b)
    · obtain rfl := List.mem_singleton.mp hi; exact sg_nv (Nat.le_of_lt hw2.1) (fun j a b => nv2 j a b)
  have G9 := G.mono (B' := 1000) (by omega)
  have G9' := G'.mono (B' := 1000) (by omega)
  obtain ⟨τ, μ, J, -⟩ := evs_iso (B := 1000) I (Nat.le_refl _) G9 G9' v1 v2 hi hi hc hc
  have q1 := (gEval_nw (B := 40) (g := g) (Nat.le_refl _) hw1 (fun i a b c => absurd c (nv1 i b)) G (gNw.refl _) (Nat.le_refl _) h1).1
  obtain ⟨q2, -, -, -, qb⟩ := gEval_nw (B := 40) (g := x1.1) (Nat.le_refl _) hw2 (fun i a b c => absurd c (nv2 i a b)) q1 (gNw.refl _) (Nat.le_refl _) h2
  have q0 := (evs_g (g := g') (Nat.le_refl 1000) v2 G9' (gNw.refl _) hi).1
  have n := J.n q2 q0
  exact ⟨n, q2.1.1⟩
theorem gLook_le {g : gr} {f : Nat → Int32} {fr to : Nat} {m : Nat → Nat} (G : gG 40 g) (hw : wf m f fr to) (nv : ∀ j, fr ≤ j → j < to → ¬ et_isv (f j)) : gLook (gI g) (sg f to (to - fr)) ≤ gC g := by
  unfold gLook
  cases h : gEval false 40 (fun _ => 0) (sg f to (to - fr)) (gI g) with
  | none => exact Nat.zero_le _
  | some q =>
    obtain ⟨stk, y⟩ := q
    have hx := gEval_look h
    obtain ⟨-, -, -, -, hb⟩ := gEval_nw (B := 40) (g := g) (Nat.le_refl _) hw (fun i a b c => absurd c (nv i a b)) G (gNw.refl _) (Nat.le_refl _) h
    subst hx
    match stk, hb with
    | [], _ => exact Nat.zero_le _
    | [c], hb => exact hb c (List.mem_singleton.mpr rfl)
    | a :: b :: s, _ => exact Nat.zero_le _
theorem op_add {sc : et_X} {h : Nat → et_MC} {n : Nat} (J : et_J h n) (a1 a2 a3 : Int32) : et_op sc 5 a1 a2 a3 h n et_J := by
  obtain ⟨f, f', sz, wp, th, g, g', σ, ρ, rc, ru, p18, p79, pr, hsz, hff, hE, hM, ⟨o, h84⟩, G, G', I, hp1, hq2⟩ := J
  obtain ⟨hn, f0, hEC, -⟩ := id hE
  refine ⟨2, 12, _, by decide, by decide, c_L_add (c_E_add (d := 892) hn hsz G hEC) f0 (fun r h' n' hp => ?_), fun r h1 n1 hp => ?_⟩
  · obtain ⟨fr, ⟨-, e, -⟩ | ⟨-, -, e, -⟩ | ⟨-, c, x', -, e, -⟩⟩ := hp
    · exact Or.inr (Or.inl e)
    · exact Or.inr (Or.inr ⟨rfl, e⟩)
    · exact Or.inl ⟨_, o, e, (fr 84 (by omega) (by omega)).trans h84⟩
  rcases hp with ⟨w, h0, ⟨fr, hP⟩, hr, fr84, gg, k84, kg⟩ | ⟨k, ⟨fr, hP⟩, hr⟩
  · rcases hP with ⟨-, e, -⟩ | ⟨-, -, e, -⟩ | ⟨q0, c, x', ev, e, hn1, hEC1⟩
    · cases e
    · cases e
    cases e
    subst hn1
    obtain ⟨mm, hw, nv⟩ := fw_term q0
    have JE1 := (hE.fr0 (Nat.le_refl _) fr hEC1).keep (h' := h1) (Nat.le_refl _) (fun k hk => fr84 k (by omega))
    have JM1 := hM.keep (h' := h1) (fun k a b => (fr84 k (by omega)).trans (fr k (by omega) (by omega)))
    obtain ⟨fs, o64⟩ := JM1.o64
    refine ⟨_, hr, ⟨_, o64⟩, _, c_M_add (d := 895) hsz G' JM1.1, fun r2 h2 n2 hp2 => ?_⟩
    obtain ⟨hn2, fm, hp2⟩ := hp2
    subst hn2
    rw [fw_0 hff] at hp2
    rcases hp2 with ⟨z, -⟩ | ⟨-, c', y, ev', hres⟩
    · exact absurd q0 z
    rw [sg_same hff (Nat.le_refl _) (Nat.le_refl _)] at ev'
    obtain ⟨e1, e2, e3, τ, μ, I2⟩ := add_iso (fr := 0) I G G' hw (fun j _ b => nv j b) ev ev'
    rcases hres with ⟨z, -⟩ | ⟨-, er, hME⟩
    · have := e2.1.1; omega
    have JM2 := JM1.fm0 fm hME
    exact ⟨_, er, JM2.o64, ⟨_, rfl, fun _ => ⟨gg, (fm 84 (by omega)).trans k84, by rw [kg, e1]⟩⟩, f, f', 0, wp, 0, x'.1, y.1, τ, μ, rc, ru, p18, p79, pr, Nat.zero_le _, (fun i hi => absurd hi (Nat.not_lt_zero _)), JE1.keep (Nat.le_refl _) (fun k hk => fm k (by omega)), JM2, ⟨gg, (fm 84 (by omega)).trans k84⟩, e2, e3, I2, hp1, hq2⟩
  · rcases hP with ⟨q0, e, hn1, hEC1⟩ | ⟨q0, ev, e, hn1, hEC1⟩ | ⟨-, c, x', -, e, -⟩
    · cases e
      subst hn1
      have JE1 := hE.fr0 (n' := n + 1) (Nat.le_succ _) fr hEC1
      have JM1 := hM.keep (h' := h1) (fun k a b => fr k (by omega) (by omega))
      obtain ⟨fs, o64⟩ := JM1.o64
      refine ⟨_, hr, ⟨_, o64⟩, _, c_M_add (d := 895) hsz G' JM1.1, fun r2 h2 n2 hp2 => ?_⟩
      obtain ⟨hn2, fm, hp2⟩ := hp2
      subst hn2
      rw [fw_0 hff] at hp2
      rcases hp2 with ⟨-, er, hME⟩ | ⟨z, -⟩
      rotate_left
      · exact absurd z q0
      have JM2 := JM1.fm0 fm hME
      exact ⟨_, er, JM2.o64, ⟨_, rfl, fun z => absurd z (by decide)⟩, f, f', sz, _, 1, g, g', σ, ρ, rc, ru, p18, p79, pr, hsz, hff, JE1.keep (Nat.le_refl _) (fun k hk => fm k (by omega)), JM2, ⟨o, (fm 84 (by omega)).trans ((fr 84 (by omega) (by omega)).trans h84)⟩, G, G', I, hp1, hq2⟩
    · cases e
      subst hn1
      obtain ⟨mm, hw, nv⟩ := fw_term q0
      have JE1 := hE.fr0 (n' := n + 1) (Nat.le_succ _) fr hEC1
      have JM1 := hM.keep (h' := h1) (fun k a b => fr k (by omega) (by omega))
      obtain ⟨fs, o64⟩ := JM1.o64
      refine ⟨_, hr, ⟨_, o64⟩, _, c_M_add (d := 895) hsz G' JM1.1, fun r2 h2 n2 hp2 => ?_⟩
      obtain ⟨hn2, fm, hp2⟩ := hp2
      subst hn2
      rw [fw_0 hff] at hp2
      rcases hp2 with ⟨z, -⟩ | ⟨-, c', y, ev', hres⟩
      · exact absurd q0 z
      rw [sg_same hff (Nat.le_refl _) (Nat.le_refl _)] at ev'
      have big := add_full (fr := 0) I G G' hw (fun j _ b => nv j b) hsz ev ev'
      rcases hres with ⟨-, er, hME⟩ | ⟨z, -⟩
      rotate_left
      · omega
      have JM2 := JM1.fm0 fm hME
      exact ⟨_, er, JM2.o64, ⟨_, rfl, fun z => absurd z (by decide)⟩, f, f', sz, wp, 2, g, g', σ, ρ, rc, ru, p18, p79, pr, hsz, hff, JE1.keep (Nat.le_refl _) (fun k hk => fm k (by omega)), JM2, ⟨o, (fm 84 (by omega)).trans ((fr 84 (by omega) (by omega)).trans h84)⟩, G, G', I, hp1, hq2⟩
    · cases e
theorem op_unite {sc : et_X} {h : Nat → et_MC} {n : Nat} (J : et_J h n) (a1 a2 a3 : Int32) : et_op sc 6 a1 a2 a3 h n et_J := by
  obtain ⟨f, f', sz, wp, th, g, g', σ, ρ, rc, ru, p18, p79, pr, hsz, hff, hE, hM, ⟨o, h84⟩, G, G', I, hp1, hq2⟩ := J
  obtain ⟨hn, f0, hEC, -⟩ := id hE
  refine ⟨2, 12, _, by decide, by decide, c_L_unite (c_E_unite (d := 892) hn hsz G hEC) f0 (fun r h' n' hp => ?_), fun r h1 n1 hp => ?_⟩
  · obtain ⟨fr, ⟨-, e, -⟩ | ⟨-, e1, -, -, ⟨-, e, -⟩ | ⟨_, _, _, _, _, -, -, -, -, e, -⟩⟩⟩ := hp
    · exact Or.inr (Or.inl e)
    · exact Or.inr (Or.inr ⟨rfl, e⟩)
    · exact Or.inl ⟨_, o, e, (fr 84 (by omega) (by omega)).trans h84⟩
  rcases hp with ⟨w, h0, ⟨fr, hP⟩, hr, fr84, gg, k84, kg⟩ | ⟨k, ⟨fr, hP⟩, hr⟩
  · rcases hP with ⟨-, e, -⟩ | ⟨q0, e1, hq, hes, ⟨-, e, -⟩ | ⟨a, x1, b, x2, g1, ev1, ev2, Q, Gx, e, hn1, hEC1⟩⟩
    · cases e
    · cases e
    cases e
    subst hn1
    obtain ⟨e0, -, hq0, -, ⟨m1, hw1⟩, ⟨m2, hw2⟩, p1, p2⟩ := fw_eq q0
    have ee : e0 = e1 := by omega
    subst ee
    have nv1 : ∀ j, j < e0 → ¬ et_isv (f j) := fun j b => ptI_nv (p1 j b)
    have nv2 : ∀ j, e0 < j → j < sz → ¬ et_isv (f j) := fun j a b => ptI_nv (p2 j a b)
    have JE1 := (hE.fr0 (Nat.le_refl _) fr hEC1).keep (h' := h1) (Nat.le_refl _) (fun k hk => fr84 k (by omega))
    have JM1 := hM.keep (h' := h1) (fun k a b => (fr84 k (by omega)).trans (fr k (by omega) (by omega)))
    obtain ⟨fs, o64⟩ := JM1.o64
    refine ⟨_, hr, ⟨_, o64⟩, _, c_M_unite (d := 895) hsz G' JM1.1, fun r2 h2 n2 hp2 => ?_⟩
    obtain ⟨hn2, fm, hp2⟩ := hp2
    subst hn2
    rw [fw_0 hff] at hp2
    rcases hp2 with ⟨z, -⟩ | ⟨-, e2, hq', -, a', y1, ev1', hres⟩
    · exact absurd q0 z
    have ee : e2 = e0 := by omega
    subst ee
    rw [sg_same hff (Nat.le_of_lt hes) (Nat.le_refl _)] at ev1'
    obtain ⟨i1, i2, -, -⟩ := add_iso (fr := 0) I G G' hw1 (fun j _ b => nv1 j b) ev1 ev1'
    have i3 := i2.1.1
    rcases hres with ⟨z, -⟩ | ⟨-, b', y2, ev2', hres⟩
    · omega
    rw [sg_same hff (Nat.le_refl _) (by omega)] at ev2'
    obtain ⟨c1, c2⟩ := two_cnt I G G' hw1 hw2 nv1 nv2 ev1 ev2 ev1' ev2'
    rcases hres with ⟨z, -⟩ | ⟨-, g1', Q', er, hME⟩
    · omega
    obtain ⟨-, r1, r2', τ, μ, I2⟩ := two_iso I G G' hw1 hw2 nv1 nv2 ev1 ev2 ev1' ev2' Q Q'
    have JM2 := JM1.fm0 fm hME
    exact ⟨_, er, JM2.o64, ⟨_, rfl, fun _ => ⟨gg, (fm 84 (by omega)).trans k84, by rw [kg, I2.c]⟩⟩, f, f', 0, wp, 0, g1, g1', τ, μ, rc, ru, p18, p79, pr, Nat.zero_le _, (fun i hi => absurd hi (Nat.not_lt_zero _)), JE1.keep (Nat.le_refl _) (fun k hk => fm k (by omega)), JM2, ⟨gg, (fm 84 (by omega)).trans k84⟩, r1, r2', I2, hp1, hq2⟩
  · rcases hP with ⟨q0, e, hn1, hEC1⟩ | ⟨q0, e1, hq, hes, ⟨hnone, e, hn1, hEC1⟩ | ⟨_, _, _, _, _, -, -, -, -, e, -⟩⟩
    · cases e
      subst hn1
      have JE1 := hE.fr0 (n' := n + 1) (Nat.le_succ _) fr hEC1
      have JM1 := hM.keep (h' := h1) (fun k a b => fr k (by omega) (by omega))
      obtain ⟨fs, o64⟩ := JM1.o64
      refine ⟨_, hr, ⟨_, o64⟩, _, c_M_unite (d := 895) hsz G' JM1.1, fun r2 h2 n2 hp2 => ?_⟩
      obtain ⟨hn2, fm, hp2⟩ := hp2
      subst hn2
      rw [fw_0 hff] at hp2
      rcases hp2 with ⟨-, er, hME⟩ | ⟨z, -⟩
      rotate_left
      · exact absurd z q0
      have JM2 := JM1.fm0 fm hME
      exact ⟨_, er, JM2.o64, ⟨_, rfl, fun z => absurd z (by decide)⟩, f, f', sz, _, 1, g, g', σ, ρ, rc, ru, p18, p79, pr, hsz, hff, JE1.keep (Nat.le_refl _) (fun k hk => fm k (by omega)), JM2, ⟨o, (fm 84 (by omega)).trans ((fr 84 (by omega) (by omega)).trans h84)⟩, G, G', I, hp1, hq2⟩
    · cases e
      subst hn1
      obtain ⟨e0, -, hq0, -, ⟨m1, hw1⟩, ⟨m2, hw2⟩, p1, p2⟩ := fw_eq q0
      have ee : e0 = e1 := by omega
      subst ee
      have nv1 : ∀ j, j < e0 → ¬ et_isv (f j) := fun j b => ptI_nv (p1 j b)
      have nv2 : ∀ j, e0 < j → j < sz → ¬ et_isv (f j) := fun j a b => ptI_nv (p2 j a b)
      have JE1 := hE.fr0 (n' := n + 1) (Nat.le_succ _) fr hEC1
      have JM1 := hM.keep (h' := h1) (fun k a b => fr k (by omega) (by omega))
      obtain ⟨fs, o64⟩ := JM1.o64
      refine ⟨_, hr, ⟨_, o64⟩, _, c_M_unite (d := 895) hsz G' JM1.1, fun r2 h2 n2 hp2 => ?_⟩
      obtain ⟨hn2, fm, hp2⟩ := hp2
      subst hn2
      rw [fw_0 hff] at hp2
      rcases hp2 with ⟨z, -⟩ | ⟨-, e2, hq', -, a', y1, ev1', hres⟩
      · exact absurd q0 z
      have ee : e2 = e0 := by omega
      subst ee
      rw [sg_same hff (Nat.le_of_lt hes) (Nat.le_refl _)] at ev1'
      have fin : et_ME 2 f' sz wp (nI rc) g' h2 → r2 = .inl (some (.int 0)) → ∃ v, r2 = .inl v ∧ (∃ fs, h2 64 = .inr (7, .int (nI (1 + 1)) :: fs)) ∧ et_anI v (nI (1 + 1)) h2 ∧ et_J h2 (n + 1) := fun hME er => by
        have JM2 := JM1.fm0 fm hME
        exact ⟨_, er, JM2.o64, ⟨_, rfl, fun z => absurd z (by decide)⟩, f, f', sz, wp, 2, g, g', σ, ρ, rc, ru, p18, p79, pr, hsz, hff, JE1.keep (Nat.le_refl _) (fun k hk => fm k (by omega)), JM2, ⟨o, (fm 84 (by omega)).trans ((fr 84 (by omega) (by omega)).trans h84)⟩, G, G', I, hp1, hq2⟩
      rcases hnone with ev1 | ⟨a, x1, ev1, ev2⟩
      · have big := add_full (fr := 0) I G G' hw1 (fun j _ b => nv1 j b) (by omega) ev1 ev1'
        rcases hres with ⟨-, er, hME⟩ | ⟨z, -⟩
        · exact fin hME er
        · omega
      · obtain ⟨i1, i2, -, -⟩ := add_iso (fr := 0) I G G' hw1 (fun j _ b => nv1 j b) ev1 ev1'
        have i3 := i2.1.1
        rcases hres with ⟨z, -⟩ | ⟨-, b', y2, ev2', hres⟩
        · omega
        rw [sg_same hff (Nat.le_refl _) (by omega)] at ev2'
        have big := two_full I G G' hw1 hw2 nv1 nv2 hsz ev1 ev2 ev1' ev2'
        rcases hres with ⟨-, er, hME⟩ | ⟨z, -⟩
        · exact fin hME er
        · omega
    · cases e
theorem up_eq0 {σ : Nat → Nat} {l : Nat} : up σ l = 0 ↔ l = 0 := by cases l <;> simp [up]
theorem same_if {σ ρ : Nat → Nat} {g g' : gr} (I : gIso σ ρ g g') {A B : Nat} (hA : A ≤ gC g) (hB : B ≤ gC g) : (if up σ A = 0 ∨ up σ B = 0 then (-1 : Int32) else if up σ A = up σ B then 1 else 0) = (if A = 0 ∨ B = 0 then -1 else if A = B then 1 else 0) := by
  have e1 : (up σ A = 0 ∨ up σ B = 0) ↔ (A = 0 ∨ B = 0) := by rw [up_eq0, up_eq0]
  have e2 : up σ A = up σ B ↔ A = B := ⟨up_inj2 I.inj hA hB, fun h => by rw [h]⟩
  simp only [e1, e2]
theorem op_same {sc : et_X} {h : Nat → et_MC} {n : Nat} (J : et_J h n) (a1 a2 a3 : Int32) : et_op sc 7 a1 a2 a3 h n et_J := by
  obtain ⟨f, f', sz, wp, th, g, g', σ, ρ, rc, ru, p18, p79, pr, hsz, hff, hE, hM, ⟨o, h84⟩, G, G', I, hp1, hq2⟩ := J
  obtain ⟨hn, f0, hEC, -⟩ := id hE
  refine ⟨1, 6, _, by decide, by decide, c_L_same (c_E_same (d := 892) (x := gI g) hn hsz G hEC) f0 (fun r h' n' hp => ?_), fun r h1 n1 hp => ?_⟩
  · obtain ⟨fr, ⟨-, e, -⟩ | ⟨-, e1, -, -, e, -⟩⟩ := hp
    · exact Or.inr (Or.inl e)
    · exact Or.inl ⟨_, o, e, (fr 84 (by omega) (by omega)).trans h84⟩
  rcases hp with ⟨w, h0, ⟨fr, hP⟩, hr, fr84, gg, k84, kg⟩ | ⟨k, ⟨fr, hP⟩, hr⟩
  · rcases hP with ⟨-, e, -⟩ | ⟨q0, e1, hq, hes, e, hn1, hEC1⟩
    · cases e
    cases e
    subst hn1
    obtain ⟨e0, -, hq0, -, ⟨m1, hw1⟩, ⟨m2, hw2⟩, p1, p2⟩ := fw_eq q0
    have ee : e0 = e1 := by omega
    subst ee
    have nv1 : ∀ j, 0 ≤ j → j < e0 → ¬ et_isv (f j) := fun j _ b => ptI_nv (p1 j b)
    have nv2 : ∀ j, e0 + 1 ≤ j → j < sz → ¬ et_isv (f j) := fun j a b => ptI_nv (p2 j a b)
    have JE1 := (hE.fr0 (Nat.le_refl _) fr hEC1).keep (h' := h1) (Nat.le_refl _) (fun k hk => fr84 k (by omega))
    have JM1 := hM.keep (h' := h1) (fun k a b => (fr84 k (by omega)).trans (fr k (by omega) (by omega)))
    obtain ⟨fs, o64⟩ := JM1.o64
    refine ⟨_, hr, ⟨_, o64⟩, _, c_M_same (d := 895) hsz G' JM1.1, fun r2 h2 n2 hp2 => ?_⟩
    obtain ⟨hn2, fm, hp2⟩ := hp2
    subst hn2
    rw [fw_0 hff] at hp2
    rcases hp2 with ⟨z, -⟩ | ⟨-, e2, hq', -, er, hME⟩
    · exact absurd q0 z
    have ee : e2 = e0 := by omega
    subst ee
    rw [sg_same hff (Nat.le_of_lt hes) (Nat.le_refl _), sg_same hff (Nat.le_refl _) (show sz - (e2 + 1) ≤ sz by omega)] at er
    have l1 := gLook_iso I G G' hw1 nv1
    have l2 := gLook_iso I G G' hw2 nv2
    have b1 := gLook_le G hw1 nv1
    have b2 := gLook_le G hw2 nv2
    rw [Nat.sub_zero] at l1 b1
    have JM2 := JM1.fm0 fm hME
    refine ⟨_, er, JM2.o64, ⟨_, rfl, fun _ => ⟨gg, (fm 84 (by omega)).trans k84, ?_⟩⟩, f, f', 0, wp, 0, g, g', σ, ρ, rc, ru, p18, p79, pr, Nat.zero_le _, (fun i hi => absurd hi (Nat.not_lt_zero _)), JE1.keep (Nat.le_refl _) (fun k hk => fm k (by omega)), JM2, ⟨gg, (fm 84 (by omega)).trans k84⟩, G, G', I, hp1, hq2⟩
    rw [kg, l1, l2, same_if I b1 b2]
  · rcases hP with ⟨q0, e, hn1, hEC1⟩ | ⟨-, e1, -, -, e, -⟩
    · cases e
      subst hn1
      have JE1 := hE.fr0 (n' := n + 1) (Nat.le_succ _) fr hEC1
      have JM1 := hM.keep (h' := h1) (fun k a b => fr k (by omega) (by omega))
      obtain ⟨fs, o64⟩ := JM1.o64
      refine ⟨_, hr, ⟨_, o64⟩, _, c_M_same (d := 895) hsz G' JM1.1, fun r2 h2 n2 hp2 => ?_⟩
      obtain ⟨hn2, fm, hp2⟩ := hp2
      subst hn2
      rw [fw_0 hff] at hp2
      rcases hp2 with ⟨-, er, hME⟩ | ⟨z, -⟩
      rotate_left
      · exact absurd z q0
      have JM2 := JM1.fm0 fm hME
      exact ⟨_, er, JM2.o64, ⟨_, rfl, fun z => absurd z (by decide)⟩, f, f', sz, _, 1, g, g', σ, ρ, rc, ru, p18, p79, pr, hsz, hff, JE1.keep (Nat.le_refl _) (fun k hk => fm k (by omega)), JM2, ⟨o, (fm 84 (by omega)).trans ((fr 84 (by omega) (by omega)).trans h84)⟩, G, G', I, hp1, hq2⟩
    · cases e
theorem op_members {sc : et_X} {h : Nat → et_MC} {n : Nat} (J : et_J h n) (a1 a2 a3 : Int32) : et_op sc 12 a1 a2 a3 h n et_J := by
  obtain ⟨f, f', sz, wp, th, g, g', σ, ρ, rc, ru, p18, p79, pr, hsz, hff, hE, hM, ⟨o, h84⟩, G, G', I, hp1, hq2⟩ := J
  obtain ⟨hn, f0, hEC, -⟩ := id hE
  refine ⟨1, 6, _, by decide, by decide, c_L_members (c_E_members (d := 891) (x := gI g) hn hsz G hEC) f0 (fun r h' n' hp => ?_), fun r h1 n1 hp => ?_⟩
  · obtain ⟨fr, ⟨-, e, -⟩ | ⟨-, e, -⟩⟩ := hp
    · exact Or.inr (Or.inl e)
    · exact Or.inl ⟨_, o, e, (fr 84 (by omega) (by omega)).trans h84⟩
  rcases hp with ⟨w, h0, ⟨fr, hP⟩, hr, fr84, gg, k84, kg⟩ | ⟨k, ⟨fr, hP⟩, hr⟩
  · rcases hP with ⟨-, e, -⟩ | ⟨q0, e, hn1, hEC1⟩
    · cases e
    cases e
    subst hn1
    obtain ⟨mm, hw, nv⟩ := fw_term q0
    have JE1 := (hE.fr0 (Nat.le_refl _) fr hEC1).keep (h' := h1) (Nat.le_refl _) (fun k hk => fr84 k (by omega))
    have JM1 := hM.keep (h' := h1) (fun k a b => (fr84 k (by omega)).trans (fr k (by omega) (by omega)))
    obtain ⟨fs, o64⟩ := JM1.o64
    refine ⟨_, hr, ⟨_, o64⟩, _, c_M_members (d := 894) hsz G' JM1.1, fun r2 h2 n2 hp2 => ?_⟩
    obtain ⟨hn2, fm, hp2⟩ := hp2
    subst hn2
    rw [fw_0 hff, sg_same hff (Nat.le_refl _) (Nat.le_refl _)] at hp2
    rcases hp2 with ⟨z, -⟩ | ⟨-, er, hME⟩
    · exact absurd q0 z
    have l1 := gLook_iso (fr := 0) I G G' hw (fun j _ b => nv j b)
    have b1 := gLook_le (fr := 0) G hw (fun j _ b => nv j b)
    rw [Nat.sub_zero] at l1 b1
    have JM2 := JM1.fm0 fm hME
    refine ⟨_, er, JM2.o64, ⟨_, rfl, fun _ => ⟨gg, (fm 84 (by omega)).trans k84, ?_⟩⟩, f, f', 0, wp, 0, g, g', σ, ρ, rc, ru, p18, p79, pr, Nat.zero_le _, (fun i hi => absurd hi (Nat.not_lt_zero _)), JE1.keep (Nat.le_refl _) (fun k hk => fm k (by omega)), JM2, ⟨gg, (fm 84 (by omega)).trans k84⟩, G, G', I, hp1, hq2⟩
    rw [kg, l1]
    congr 1
    cases hl : gLook (gI g) (sg f sz sz) with
    | zero => rfl
    | succ c =>
      rw [hl] at b1
      show (if c + 1 = 0 then (-1 : Int32) else nI (gCnt g (c + 1 - 1))) = (if σ c + 1 = 0 then -1 else nI (gCnt g' (σ c + 1 - 1)))
      rw [if_neg (Nat.succ_ne_zero _), if_neg (Nat.succ_ne_zero _), Nat.add_sub_cancel, Nat.add_sub_cancel, gCnt_iso I G G' b1]
  · rcases hP with ⟨q0, e, hn1, hEC1⟩ | ⟨-, e, -⟩
    · cases e
      subst hn1
      have JE1 := hE.fr0 (n' := n + 1) (Nat.le_succ _) fr hEC1
      have JM1 := hM.keep (h' := h1) (fun k a b => fr k (by omega) (by omega))
      obtain ⟨fs, o64⟩ := JM1.o64
      refine ⟨_, hr, ⟨_, o64⟩, _, c_M_members (d := 894) hsz G' JM1.1, fun r2 h2 n2 hp2 => ?_⟩
      obtain ⟨hn2, fm, hp2⟩ := hp2
      subst hn2
      rw [fw_0 hff] at hp2
      rcases hp2 with ⟨-, er, hME⟩ | ⟨z, -⟩
      rotate_left
      · exact absurd z q0
      have JM2 := JM1.fm0 fm hME
      exact ⟨_, er, JM2.o64, ⟨_, rfl, fun z => absurd z (by decide)⟩, f, f', sz, _, 1, g, g', σ, ρ, rc, ru, p18, p79, pr, hsz, hff, JE1.keep (Nat.le_refl _) (fun k hk => fm k (by omega)), JM2, ⟨o, (fm 84 (by omega)).trans ((fr 84 (by omega) (by omega)).trans h84)⟩, G, G', I, hp1, hq2⟩
    · cases e
