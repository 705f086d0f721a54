/-! ===== every call; the start; the law's loop ===== -/
theorem all_op {sc : et_X} {h : Nat → et_MC} {n : Nat} (J : et_J h n) (a1 a2 a3 : Int32) : ∀ k : Nat, et_op sc k a1 a2 a3 h n et_J
  | 0 => op_type J a1 a2 a3
  | 1 => op_wipe J a1 a2 a3
  | 2 => op_character J a1 a2 a3
  | 3 => op_place J a1 a2 a3
  | 4 => op_rule J a1 a2 a3
  | 5 => op_add J a1 a2 a3
  | 6 => op_unite J a1 a2 a3
  | 7 => op_same J a1 a2 a3
  | 8 => op_price J a1 a2 a3
  | 9 => op_rounds J a1 a2 a3
  | 10 => op_nodes J a1 a2 a3
  | 11 => op_classes J a1 a2 a3
  | 12 => op_members J a1 a2 a3
  | 13 => op_cost J a1 a2 a3
  | 14 => op_best J a1 a2 a3
  | _ + 15 => J
theorem J_0 {h : Nat → et_MC} (hE : et_E0 h) (hM : et_M0 h) (ho : h 84 = .inl (1, 1, .inr (.inl (fun _ => 0)))) : et_J h 85 := by
  obtain ⟨f0, f1, f2, f3, ⟨f4, f5, f6, f7, f8, f9⟩, ⟨f10, f11, f12⟩, ⟨f13, f14, f15, f16⟩, ⟨f17, ⟨gp, f18, hgp⟩, f19, f20, f21, f22, f62⟩, f63⟩ := hE
  obtain ⟨m64, m65, m66, m67, m68, m69, m70, m71, m72, m73, m74, m75, m76, m77, m78, m80, m81, m82, m83, gq, m79, hgq⟩ := hM
  have G : gG 40 (fun _ => 0, fun _ => 0, fun _ => 0, fun _ => 0, 0, 0) := ⟨⟨Nat.zero_le _, Nat.le_refl _, fun n hn => absurd hn (Nat.not_lt_zero _)⟩, fun n m hn => absurd hn (Nat.not_lt_zero _), fun c hc => absurd hc (Nat.not_lt_zero _), fun n hn => absurd hn (Nat.not_lt_zero _)⟩
  have H : gHom (fun c => c) (fun _ => 0, fun _ => 0, fun _ => 0, fun _ => 0, 0, 0) (fun _ => 0, fun _ => 0, fun _ => 0, fun _ => 0, 0, 0) := ⟨fun a ha => absurd ha (Nat.not_lt_zero _), fun n hn => absurd hn (Nat.not_lt_zero _)⟩
  have P : ∀ {p : Nat → Int32}, (∀ j, j < 127 → p j = 1) → prOk p (fun _ => 1) := fun hp s hs => ⟨hp _ (pt_nn hs).2.1, Nat.le_refl _, by show 1 ≤ 1000000000; decide⟩
  have gh : et_gh (gI (fun _ => 0, fun _ => 0, fun _ => 0, fun _ => 0, 0, 0)) h := ⟨_, _, _, _, _, _, f3, f4, f5, f6, f7, f8, f9, fun n hn => absurd hn (Nat.not_lt_zero _), fun c hc => absurd hc (Nat.not_lt_zero _)⟩
  have mg : et_mg (gI (fun _ => 0, fun _ => 0, fun _ => 0, fun _ => 0, 0, 0)) h := ⟨_, _, _, _, _, m68, m69, m70, m71, m72, fun n hn => absurd hn (Nat.not_lt_zero _), fun c hc => absurd hc (Nat.not_lt_zero _)⟩
  refine ⟨fun _ => 0, fun _ => 0, 0, -1, 0, _, _, _, _, 0, (fun _ => (fun _ => 0, 0, 0)), gp, gq, fun _ => 1, Nat.zero_le _, fun _ _ => rfl, ?_, ?_, ⟨_, ho⟩, G, G, ⟨H, H, fun _ _ => rfl, fun _ _ => rfl⟩, P hgp, P (fun j hj => hgq j (by omega))⟩
  · exact ⟨Nat.le_refl _, f0, ⟨⟨_, f0⟩, ⟨_, f1⟩, f2, gh, f10, ⟨_, f11⟩, _, f12⟩, ⟨f10, ⟨_, f11⟩, ⟨_, f12⟩, ⟨false, f13⟩, ⟨_, f14⟩, ⟨_, f15⟩, _, f16⟩, ⟨fun _ => 0, _, ⟨Nat.zero_le _, f63, fun r hr => absurd hr (Nat.not_lt_zero _)⟩, fun r hr => absurd hr (Nat.not_lt_zero _)⟩, f17, f18, ⟨_, f19⟩, ⟨_, f20⟩, ⟨_, ⟨_, f21, fun i hi => if_pos hi⟩, f22⟩, _, f62⟩
  · exact ⟨⟨⟨0, 0, 0, 0, false, 0, 0, 0, m64⟩, m65, mg, ⟨_, m73⟩, ⟨_, m74⟩, _, m75⟩, ⟨_, _, ⟨Nat.zero_le _, fun r hr => absurd hr (Nat.not_lt_zero _)⟩, m66, m67⟩, ⟨_, m76⟩, ⟨_, m77⟩, ⟨_, m78⟩, m79, ⟨_, m80⟩, ⟨_, m81⟩, ⟨_, m82⟩, _, m83⟩
set_option maxRecDepth 100000 in
theorem law_loop {sc : et_X} {mc ms : Nat} (hL : sc.2.1 ≤ 2048) (hmc : 601024 ≤ mc) (hms : 7293034 ≤ ms) : ∀ (t j : Nat) (h : Nat → et_MC) (n nc ns : Nat), j + t = 513 → nc ≤ 85 + 1000 * j → ns ≤ 15721 + 10000 * j → et_J h n → et_M sc Y_Law 900 mc ms et_one 23 [some (.retAddr sc.1), some (.ref 0), some (.ref 64), some (.ref 84), some (.int (nI (4 * j))), none, none, none] [] h n nc ns
  | 0, j, h, n, nc, ns, hj, h1, h2, J => law_head hL (by omega) (by omega) (by omega) fun hi => absurd hi (by omega)
  | t + 1, j, h, n, nc, ns, hj, h1, h2, J => by
    refine law_head hL (by omega) (by omega) (by omega) fun hi => ?_
    refine law_iter (Nx := et_J) hi hL (by omega) (by omega) (fun k _ _ => all_op J _ _ _ k) fun h' n' nc' ns' b1 b2 J' => ?_
    have e1 : j + 1 + t = 513 := by omega
    have e2 : nc' ≤ 85 + 1000 * (j + 1) := by omega
    have e3 : ns' ≤ 15721 + 10000 * (j + 1) := by omega
    have e4 : 4 * (j + 1) = 4 * j + 4 := by omega
    have nx := law_loop hL hmc hms t (j + 1) h' n' nc' ns' e1 e2 e3 J'
    rw [e4] at nx
    exact law_next nx
theorem law_whole {sc : et_X} {mc ms : Nat} (hL : sc.2.1 ≤ 2048) (hmc : 601024 ≤ mc) (hms : 7293034 ≤ ms) : et_M sc Y_Law 900 mc ms et_one 0 [some (.retAddr sc.1), none, none, none, none, none, none, none] [] (fun _ => et_void) 0 0 0 := by
  refine law_start (by omega) (by omega) fun h hE hM ho => ?_
  exact law_loop hL hmc hms 513 0 h 85 85 15721 (by omega) (by omega) (by omega) (J_0 hE hM ho)
