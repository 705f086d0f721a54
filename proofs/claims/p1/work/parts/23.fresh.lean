/-! ===== the first call on a new object ===== -/
theorem et_0I : nI 0 = 0 := nI_0
theorem et_tP_a {sz : Nat} {f : Nat → Int32} {mid wp : Int32} {b : Int64} {x : Int32} {h h' : Nat → et_MC} {r : et_R} (hp : et_tP sz f mid wp b x h r h') : ((et_tok sz b x ∧ r = .inl (some (.int (nI sz + x)))) ∨ (¬ et_tok sz b x ∧ r = .inl (some (.int (-1))))) ∧ ∀ k, k ≠ 1 → k ≠ 2 → h' k = h k := by
  rcases hp with ⟨z1, z2, z3⟩ | ⟨N, g, z0, z1, z2, z3, -⟩
  · exact ⟨Or.inr ⟨z1, z2⟩, fun k e1 e2 => by rw [z3]⟩
  · exact ⟨Or.inl ⟨z1, by rw [z2, z0, nI_add]⟩, fun k e1 e2 => by rw [z3]; simp [va_up, e1, e2]⟩
theorem et_tM_a {sz : Nat} {f : Nat → Int32} {th a_ wr en al se ru nd cs un rs : Int32} {dc ds : Int64} {b : Int64} {x : Int32} {h h' : Nat → et_MC} {r : et_R} (hp : et_tM sz f th a_ wr en al se ru nd cs un rs dc ds b x h r h') : (et_tok sz b x ∧ r = .inl (some (.int (nI sz + x)))) ∨ (¬ et_tok sz b x ∧ r = .inl (some (.int (-1)))) := by
  rcases hp with ⟨z1, z2, z3⟩ | ⟨N, g, z0, z1, z2, z3, -⟩
  · exact Or.inr ⟨z1, z2⟩
  · exact Or.inl ⟨z1, by rw [z2, z0, nI_add]⟩
def et_T2 : (Nat → et_MC) → Nat → Prop := fun _ _ => True
set_option maxHeartbeats 4000000 in
set_option maxRecDepth 100000 in
theorem fresh_op {sc : et_X} {h : Nat → et_MC} (hE : et_E0 h) (hM : et_M0 h) (ho : h 84 = .inl (1, 1, .inr (.inl (fun _ => 0)))) (a1 a2 a3 : Int32) (k : Nat) : et_op sc k a1 a2 a3 h 85 et_T2 := by
  obtain ⟨f0, f1, f2, f3, -, -, ⟨f13, -, -, f16⟩, ⟨f17, ⟨gp, f18, -⟩, -⟩, -⟩ := hE
  have hM' := hM
  obtain ⟨m64, m65, -, -, -, -, -, -, -, -, -, -, m76, m77, m78, -, -, -, -, gq, m79, -⟩ := hM
  match k with
  | 0 =>
    refine ⟨0, 0, _, by decide, by decide, ⟨_, f0⟩, c_E_type (d := 897) (sz := 0) (et_arg a1 a2) a3 f0 (by decide) f1 f2, fun r h1 n1 hp => ?_⟩
    obtain ⟨hn, hp⟩ := hp
    obtain ⟨hr, fr⟩ := et_tP_a hp
    rcases hr with ⟨ht, hr⟩ | ⟨ht, hr⟩
    · refine ⟨_, hr, ⟨_, (fr 64 (by decide) (by decide)).trans m64⟩, _, c_M_type (d := 898) (sz := 0) (et_arg a1 a2) a3 (by decide) ((fr 64 (by decide) (by decide)).trans m64) ((fr 65 (by decide) (by decide)).trans m65), fun r2 h2 n2 hp2 => ?_⟩
      rcases et_tM_a hp2.2 with ⟨ht2, hr2⟩ | ⟨ht2, hr2⟩
      · exact ⟨hr2, trivial⟩
      · exact absurd ht ht2
    · refine ⟨_, hr, ⟨_, (fr 64 (by decide) (by decide)).trans m64⟩, _, c_M_type (d := 898) (sz := 0) (et_arg a1 a2) a3 (by decide) ((fr 64 (by decide) (by decide)).trans m64) ((fr 65 (by decide) (by decide)).trans m65), fun r2 h2 n2 hp2 => ?_⟩
      rcases et_tM_a hp2.2 with ⟨ht2, hr2⟩ | ⟨ht2, hr2⟩
      · exact absurd ht2 ht
      · exact ⟨hr2, trivial⟩
  | 1 =>
    refine ⟨0, 0, _, by decide, by decide, ⟨_, f0⟩, c_E_wipe (d := 898) f0 f1, fun r h1 n1 hp => ?_⟩
    obtain ⟨hr, hn, rfl⟩ := hp
    refine ⟨_, hr, ⟨_, m64⟩, _, c_M_wipe (d := 899) m64, fun r2 h2 n2 hp2 => ⟨hp2.1, trivial⟩⟩
  | 2 =>
    refine ⟨0, 0, _, by decide, by decide, ⟨_, f0⟩, c_E_character (d := 899) (sz := 0) f0 (by decide) f1 f2, fun r h1 n1 hp => ?_⟩
    obtain ⟨hr, hn, rfl⟩ := hp
    exact ⟨_, hr, ⟨_, m64⟩, _, c_M_character (d := 898) (sz := 0) a1 (by decide) m64 m65, fun r2 h2 n2 hp2 => ⟨hp2.1, trivial⟩⟩
  | 3 =>
    refine ⟨0, 0, _, by decide, by decide, ⟨_, f0⟩, c_E_place (d := 899) f0 f1, fun r h1 n1 hp => ?_⟩
    obtain ⟨hr, hn, rfl⟩ := hp
    exact ⟨_, hr, ⟨_, m64⟩, _, c_M_place (d := 899) m64, fun r2 h2 n2 hp2 => ⟨hp2.1, trivial⟩⟩
  | 4 =>
    refine ⟨1, 6, _, by decide, by decide, c_L_rule (c0_E_rule (d := 896) f0 f1) f0 (fun r h' n' hp => Or.inr (Or.inl hp.1)), fun r h1 n1 hp => ?_⟩
    rcases hp with ⟨w, h0, hp, -⟩ | ⟨kk, hp, hr⟩
    · cases hp.1
    · obtain ⟨e, hn, fr⟩ := hp
      cases e
      have g64 := (fr 64 (by decide) (by decide)).trans m64
      refine ⟨_, hr, ⟨_, g64⟩, _, c0_M_rule (d := 896) g64, fun r2 h2 n2 hp2 => ?_⟩
      obtain ⟨e2, -, e3, -⟩ := hp2
      exact ⟨_, e2, ⟨_, e3⟩, ⟨_, rfl, fun z => absurd z (by decide)⟩, trivial⟩
  | 5 =>
    refine ⟨1, 6, _, by decide, by decide, c_L_add (c0_E_add (d := 895) f0 f1) f0 (fun r h' n' hp => Or.inr (Or.inl hp.1)), fun r h1 n1 hp => ?_⟩
    rcases hp with ⟨w, h0, hp, -⟩ | ⟨kk, hp, hr⟩
    · cases hp.1
    · obtain ⟨e, hn, fr⟩ := hp
      cases e
      have g64 := (fr 64 (by decide) (by decide)).trans m64
      refine ⟨_, hr, ⟨_, g64⟩, _, c0_M_add (d := 896) g64, fun r2 h2 n2 hp2 => ?_⟩
      obtain ⟨e2, -, e3, -⟩ := hp2
      exact ⟨_, e2, ⟨_, e3⟩, ⟨_, rfl, fun z => absurd z (by decide)⟩, trivial⟩
  | 6 =>
    refine ⟨1, 6, _, by decide, by decide, c_L_unite (c0_E_unite (d := 895) f0 f1) f0 (fun r h' n' hp => Or.inr (Or.inl hp.1)), fun r h1 n1 hp => ?_⟩
    rcases hp with ⟨w, h0, hp, -⟩ | ⟨kk, hp, hr⟩
    · cases hp.1
    · obtain ⟨e, hn, fr⟩ := hp
      cases e
      have g64 := (fr 64 (by decide) (by decide)).trans m64
      refine ⟨_, hr, ⟨_, g64⟩, _, c0_M_unite (d := 896) g64, fun r2 h2 n2 hp2 => ?_⟩
      obtain ⟨e2, -, e3, -⟩ := hp2
      exact ⟨_, e2, ⟨_, e3⟩, ⟨_, rfl, fun z => absurd z (by decide)⟩, trivial⟩
  | 7 =>
    refine ⟨1, 6, _, by decide, by decide, c_L_same (c0_E_same (d := 895) f0 f1) f0 (fun r h' n' hp => Or.inr (Or.inl hp.1)), fun r h1 n1 hp => ?_⟩
    rcases hp with ⟨w, h0, hp, -⟩ | ⟨kk, hp, hr⟩
    · cases hp.1
    · obtain ⟨e, hn, fr⟩ := hp
      cases e
      have g64 := (fr 64 (by decide) (by decide)).trans m64
      refine ⟨_, hr, ⟨_, g64⟩, _, c0_M_same (d := 896) g64, fun r2 h2 n2 hp2 => ?_⟩
      obtain ⟨e2, -, e3, -⟩ := hp2
      exact ⟨_, e2, ⟨_, e3⟩, ⟨_, rfl, fun z => absurd z (by decide)⟩, trivial⟩
  | 8 =>
    refine ⟨1, 6, _, by decide, by decide, c_L_price a1 a2 (c_E_price (d := 897) a1 a2 f0 f17 f18) f0 (fun r h' n' hp => by rcases hp with ⟨-, e, -⟩ | ⟨-, e, -⟩; exact Or.inr e; exact Or.inl e), fun r h1 n1 hp => ?_⟩
    rcases hp with ⟨hp, hr⟩ | ⟨kk, hp, hr⟩
    · rcases hp with ⟨-, e, -⟩ | ⟨hc, -, -, rfl⟩
      · cases e
      · refine ⟨_, hr, ⟨_, m64⟩, _, c_M_price (d := 897) a1 a2 m64 m79, fun r2 h2 n2 hp2 => ?_⟩
        obtain ⟨e2, -, ⟨hc2, -⟩ | ⟨-, rfl⟩⟩ := hp2
        · exact absurd hc hc2
        · exact ⟨_, e2, ⟨_, rfl⟩, rfl, trivial⟩
    · rcases hp with ⟨hc, e, -, rfl⟩ | ⟨-, e, -⟩
      · cases e
        refine ⟨_, hr, ⟨_, m64⟩, _, c_M_price (d := 897) a1 a2 m64 m79, fun r2 h2 n2 hp2 => ?_⟩
        obtain ⟨e2, -, ⟨-, rfl⟩ | ⟨hc2, -⟩⟩ := hp2
        · exact ⟨_, e2, ⟨_, rfl⟩, rfl, trivial⟩
        · exact absurd hc2 hc
      · cases e
  | 9 =>
    refine ⟨1, 6, _, by decide, by decide, c_L_rounds a1 (c0_E_rounds (d := 896) a1 f0 f3 f13 f16) f0 (fun r h' n' hp => by rcases hp with ⟨-, e, -⟩ | ⟨-, e, -, fr⟩; exact Or.inr (Or.inl e); exact Or.inl ⟨_, _, e, (fr 84 (by decide) (by decide)).trans ho⟩), fun r h1 n1 hp => ?_⟩
    rcases hp with ⟨w, h0, hp, hr, fr0, g, hg, hg0⟩ | ⟨kk, hp, hr⟩
    · rcases hp with ⟨-, e, -⟩ | ⟨hc, e, -, fr⟩
      · cases e
      · cases e
        have fr' : ∀ k, k ≠ 84 → k ≠ 13 → k ≠ 16 → h1 k = h k := fun k e1 e2 e3 => (fr0 k e1).trans (fr k e2 e3)
        refine ⟨_, hr, ⟨_, (fr' 64 (by decide) (by decide) (by decide)).trans m64⟩, _, c0_M_rounds (d := 896) a1 ((fr' 64 (by decide) (by decide) (by decide)).trans m64) ((fr' 76 (by decide) (by decide) (by decide)).trans m76) ((fr' 77 (by decide) (by decide) (by decide)).trans m77) ((fr' 78 (by decide) (by decide) (by decide)).trans m78), fun r2 h2 n2 hp2 => ?_⟩
        obtain ⟨e2, -, ⟨fs, e3⟩, fr2⟩ := hp2
        rw [if_pos hc] at e3
        exact ⟨_, e2, ⟨_, e3⟩, ⟨_, rfl, fun _ => ⟨g, (fr2 84 (by decide) (by decide) (by decide) (by decide)).trans hg, hg0⟩⟩, trivial⟩
    · rcases hp with ⟨hc, e, -, rfl⟩ | ⟨-, e, -⟩
      · cases e
        refine ⟨_, hr, ⟨_, m64⟩, _, c0_M_rounds (d := 896) a1 m64 m76 m77 m78, fun r2 h2 n2 hp2 => ?_⟩
        obtain ⟨e2, -, ⟨fs, e3⟩, fr2⟩ := hp2
        rw [if_neg hc] at e3
        exact ⟨_, e2, ⟨_, e3⟩, ⟨_, rfl, fun z => absurd z (by decide)⟩, trivial⟩
      · cases e
  | 10 =>
    refine ⟨0, 0, _, by decide, by decide, ⟨_, f0⟩, c_E_nodes (d := 899) f0 f3, fun r h1 n1 hp => ?_⟩
    obtain ⟨hr, hn, rfl⟩ := hp
    exact ⟨_, hr, ⟨_, m64⟩, _, c_M_nodes (d := 899) m64, fun r2 h2 n2 hp2 => ⟨hp2.1, trivial⟩⟩
  | 11 =>
    refine ⟨0, 0, _, by decide, by decide, ⟨_, f0⟩, c_E_classes (d := 899) f0 f3, fun r h1 n1 hp => ?_⟩
    obtain ⟨hr, hn, rfl⟩ := hp
    exact ⟨_, hr, ⟨_, m64⟩, _, c_M_classes (d := 899) m64, fun r2 h2 n2 hp2 => ⟨hp2.1, trivial⟩⟩
  | 12 =>
    refine ⟨1, 6, _, by decide, by decide, c_L_members (c0_E_members (d := 894) f0 f1) f0 (fun r h' n' hp => Or.inr (Or.inl hp.1)), fun r h1 n1 hp => ?_⟩
    rcases hp with ⟨w, h0, hp, -⟩ | ⟨kk, hp, hr⟩
    · cases hp.1
    · obtain ⟨e, hn, fr⟩ := hp
      cases e
      have g64 := (fr 64 (by decide) (by decide)).trans m64
      refine ⟨_, hr, ⟨_, g64⟩, _, c0_M_members (d := 895) g64, fun r2 h2 n2 hp2 => ?_⟩
      obtain ⟨e2, -, e3, -⟩ := hp2
      exact ⟨_, e2, ⟨_, e3⟩, ⟨_, rfl, fun z => absurd z (by decide)⟩, trivial⟩
  | 13 =>
    refine ⟨1, 6, _, by decide, by decide, c_L_cost (c0_E_cost (d := 894) f0 f1) f0 (fun r h' n' hp => Or.inr hp.1), fun r h1 n1 hp => ?_⟩
    rcases hp with ⟨w, h0, hp, -⟩ | ⟨kk, hp, hr⟩
    · cases hp.1
    · obtain ⟨e, hn, fr⟩ := hp
      cases e
      have g64 := (fr 64 (by decide) (by decide)).trans m64
      refine ⟨_, hr, ⟨_, g64⟩, _, c0_M_cost (d := 895) g64, fun r2 h2 n2 hp2 => ?_⟩
      obtain ⟨e2, -, e3, -⟩ := hp2
      exact ⟨_, e2, ⟨_, e3⟩, ⟨_, rfl, fun z => absurd z (by decide)⟩, trivial⟩
  | 14 =>
    refine ⟨1, 6, _, by decide, by decide, c_L_best (c0_E_best (d := 894) f0 f1) f0 (fun r h' n' hp => Or.inr (Or.inl hp.1)), fun r h1 n1 hp => ?_⟩
    rcases hp with ⟨w, h0, hp, -⟩ | ⟨kk, hp, hr⟩
    · cases hp.1
    · obtain ⟨e, hn, fr⟩ := hp
      cases e
      have g64 := (fr 64 (by decide) (by decide)).trans m64
      refine ⟨_, hr, ⟨_, g64⟩, _, c0_M_best (d := 895) g64, fun r2 h2 n2 hp2 => ?_⟩
      obtain ⟨e2, -, e3, -⟩ := hp2
      exact ⟨_, e2, ⟨_, e3⟩, ⟨_, rfl, fun z => absurd z (by decide)⟩, trivial⟩
  | _ + 15 => exact trivial
/-- the length of the script less four -/
theorem et_len4 {L i : Nat} (hL : L ≤ 2048) (hi : i ≤ 4096) : Int32.ofNat L - 4 < nI i ↔ L < i + 4 := by
  by_cases h4 : 4 ≤ L
  · have e : Int32.ofNat L - 4 = nI (L - 4) := by
      have h9 : nI L = nI (L - 4) + 4 := by
        rw [show (4 : Int32) = nI 4 from rfl, nI_add, Nat.sub_add_cancel h4]
      show nI L - 4 = _
      rw [h9]
      simp [Int32.sub_eq_add_neg, Int32.add_assoc]
    rw [e, nI_ltI (by omega) (by omega)]
    omega
  · have h5 : Int32.ofNat L - 4 < 0 := by
      rcases (show L = 0 ∨ L = 1 ∨ L = 2 ∨ L = 3 by omega) with rfl | rfl | rfl | rfl <;> decide
    have h6 : (0 : Int32) ≤ nI i := nI_pos' (by omega)
    constructor
    · intro _
      omega
    · intro _
      exact Int32.lt_of_lt_of_le h5 h6
set_option maxHeartbeats 4000000 in
set_option maxRecDepth 100000 in
theorem law_head {sc : et_X} {mc ms : Nat} {h : Nat → et_MC} {n nc ns i : Nat} (hL : sc.2.1 ≤ 2048) (hi : i ≤ 4096) (hmc : nc ≤ mc) (hms : ns ≤ ms) (hK : i + 4 ≤ sc.2.1 → et_M sc Y_Law 900 mc ms et_one 32 [some (.retAddr sc.1), some (.ref 0), some (.ref 64), some (.ref 84), some (.int (nI i)), none, none, none] [] h n nc ns) : et_M sc Y_Law 900 mc ms et_one 23 [some (.retAddr sc.1), some (.ref 0), some (.ref 64), some (.ref 84), some (.int (nI i)), none, none, none] [] h n nc ns := by
  refine et_iload d_Law_23 rfl ?_
  refine et_sload (i := 0) d_Law_25 rfl rfl ?_
  refine et_slen d_Law_26 ?_
  refine et_iconst (v := 4) d_Law_27 (by decide) ?_
  refine et_isub d_Law_28 ?_
  refine et_icmp_gt (tgt := 675) d_Law_29 (by decide) (fun _ => ?_) (fun q => hK (Nat.not_lt.mp fun z => q ((et_len4 hL hi).mpr z)))
  refine et_iconst (v := 1) d_Law_675 (by decide) ?_
  exact et_zret d_Law_676 rfl rfl hmc hms rfl
theorem law_next {sc : et_X} {mc ms : Nat} {h : Nat → et_MC} {n nc ns i : Nat} (hK : et_M sc Y_Law 900 mc ms et_one 23 [some (.retAddr sc.1), some (.ref 0), some (.ref 64), some (.ref 84), some (.int (nI (i + 4))), none, none, none] [] h n nc ns) : et_M sc Y_Law 900 mc ms et_one 669 [some (.retAddr sc.1), some (.ref 0), some (.ref 64), some (.ref 84), some (.int (nI i)), none, none, none] [] h n nc ns := by
  refine et_iinc (lv' := [_, _, _, _, _, _, _, _]) d_Law_669 rfl (v := nI (i + 4)) (nI_add i 4) (by decide) rfl rfl ?_
  exact et_goto (tgt := 23) d_Law_672 (by decide) hK
/-- the law on a script of at most four ints -/
theorem law_p1 {sc : et_X} {mc ms : Nat} (hL : sc.2.1 ≤ 4) (hmc : 3000 ≤ mc) (hms : 100000 ≤ ms) : et_M sc Y_Law 900 mc ms et_one 0 [some (.retAddr sc.1), none, none, none, none, none, none, none] [] (fun _ => et_void) 0 0 0 := by
  refine law_start (by omega) hms fun h hE hM ho => ?_
  refine law_head (by omega) (by omega) (by omega) (by omega) fun hi => ?_
  refine law_iter (Nx := et_T2) hi (by omega) (by omega) (by omega) (fun k _ _ => fresh_op hE hM ho _ _ _ k) fun h' n' nc' ns' b1 b2 _ => ?_
  refine law_next (law_head (by omega) (by omega) (by omega) (by omega) fun hi2 => absurd hi2 (by omega))
