/-! ===== how the first side of a rule is matched ===== -/
theorem stN_ge {row : Nat → Int32} {e : Nat} : ∀ {k q : Nat}, q ∈ stN row e k → e - k ≤ q
  | 0, q, h => by simp [stN] at h
  | k + 1, q, h => by
    rw [stN] at h
    rcases List.mem_cons.mp h with e1 | e1
    · rw [e1]; exact Nat.le_refl _
    · have := stN_ge (List.mem_of_mem_drop e1); omega
theorem stN_lt {row : Nat → Int32} {e : Nat} : ∀ {k q : Nat}, k ≤ e → q ∈ stN row e k → q < e
  | 0, q, _, h => by simp [stN] at h
  | k + 1, q, hk, h => by
    rw [stN] at h
    rcases List.mem_cons.mp h with e1 | e1
    · omega
    · exact stN_lt (by omega) (List.mem_of_mem_drop e1)
theorem stN_inc {row : Nat → Int32} {e : Nat} : ∀ {k : Nat}, k ≤ e → (stN row e k).Pairwise (· < ·)
  | 0, _ => List.Pairwise.nil
  | k + 1, hk => by
    rw [stN]
    refine List.Pairwise.cons (fun q hq => ?_) ((stN_inc (by omega)).drop)
    have := stN_ge (List.mem_of_mem_drop hq)
    omega
/-- the classes of the places when node n stands at place p: b is where the second part begins -/
def seU (g : gr) (a b p n : Nat) (se : Nat → Nat) : Nat → Nat := match a with
  | 0 => se
  | 1 => gUp se (p + 1) (gL g n - 1)
  | _ => gUp (gUp se (p + 1) (gL g n - 1)) b (gR g n - 1)
/-- th is a match of the places from p on, whose classes are se, where the variables ahead of p are vt -/
def mtP (g : gr) (row : Nat → Int32) (e : Nat) (se vt th : Nat → Nat) (p : Nat) : Prop := (∀ v, v < 3 → inF row (nI (97 + v)) p = true → th v = vt v) ∧ gEval false 40 th (sg row e (e - p)) (gI g) = some ((stN row e (e - p)).map se, gI g)
theorem sg_step {row : Nat → Int32} {e p : Nat} (hp : p < e) : sg row e (e - p) = row p :: sg row e (e - (p + 1)) := by
  rw [show e - p = (e - (p + 1)) + 1 by omega, sg, show e - (e - (p + 1) + 1) = p by omega]
theorem stN_step {row : Nat → Int32} {e p : Nat} (hp : p < e) : stN row e (e - p) = p :: (stN row e (e - (p + 1))).drop (pw (row p)) := by
  rw [show e - p = (e - (p + 1)) + 1 by omega, stN, show e - (e - (p + 1) + 1) = p by omega]
theorem inF_succ {row : Nat → Int32} {s : Int32} {p : Nat} : inF row s (p + 1) = true ↔ inF row s p = true ∨ row p = s := by
  rw [inF, Bool.or_eq_true, decide_eq_true_eq]
theorem isv_nI {c : Int32} (h : et_isv c) : c = nI (97 + (c - 97).toNatClampNeg) := (et_isv_in h).2.2
theorem nI_97 {u v : Nat} (hu : u < 3) (hv : v < 3) : nI (97 + u) = nI (97 + v) ↔ u = v := by
  rw [nI_eq (by omega) (by omega)]
  omega
theorem mt_end {g : gr} {row : Nat → Int32} {e : Nat} {se vt th : Nat → Nat} : mtP g row e se vt th e ↔ ∀ v, v < 3 → inF row (nI (97 + v)) e = true → th v = vt v := by
  unfold mtP
  rw [Nat.sub_self]
  exact ⟨fun h => h.1, fun h => ⟨h, rfl⟩⟩
theorem mt_var {g : gr} {row : Nat → Int32} {e p : Nat} {se vt th : Nat → Nat} (hp : p < e) (hv : et_isv (row p)) : mtP g row e se vt th p ↔ (∀ v, v < 3 → inF row (nI (97 + v)) p = true → th v = vt v) ∧ th (row p - 97).toNatClampNeg = se p ∧ gEval false 40 th (sg row e (e - (p + 1))) (gI g) = some ((stN row e (e - (p + 1))).map se, gI g) := by
  have e0 : pw (row p) = 0 := pw_0 (by rw [et_pp, if_pos hv])
  unfold mtP
  rw [sg_step hp, stN_step hp, e0, List.drop_zero, List.map_cons, gEval]
  refine and_congr_right fun _ => ?_
  cases hq : gEval false 40 th (sg row e (e - (p + 1))) (gI g) with
  | none => simp
  | some q =>
    simp only [gPush_v hv, Option.some.injEq]
    constructor
    · intro h
      have h1 := (Prod.mk.inj h).1
      have h2 := (Prod.mk.inj h).2
      rw [List.cons.injEq] at h1
      exact ⟨h1.1, Prod.ext h1.2 h2⟩
    · rintro ⟨h1, h2⟩
      rw [h2]
      simp [h1]
theorem mt_new {g : gr} {row : Nat → Int32} {e p : Nat} {se vt th : Nat → Nat} (hp : p < e) (hv : et_isv (row p)) (hn : inF row (row p) p = false) : mtP g row e se vt th p ↔ mtP g row e se (gUp vt (row p - 97).toNatClampNeg (se p)) th (p + 1) := by
  rw [mt_var hp hv]
  obtain ⟨i1, -, -⟩ := et_isv_in hv
  have ie := isv_nI hv
  constructor
  · rintro ⟨h1, h2, h3⟩
    refine ⟨fun v hv3 hi => ?_, h3⟩
    by_cases ev : v = (row p - 97).toNatClampNeg
    · rw [ev, gUp_s]; exact h2
    · rw [gUp_n _ _ ev]
      rcases inF_succ.mp hi with h | h
      · exact h1 v hv3 h
      · rw [ie] at h; exact absurd ((nI_97 i1 hv3).mp h).symm ev
  · rintro ⟨h1, h3⟩
    refine ⟨fun v hv3 hi => ?_, ?_, h3⟩
    · have hne : v ≠ (row p - 97).toNatClampNeg := fun z => by rw [z, ← ie, hn] at hi; cases hi
      have := h1 v hv3 (inF_succ.mpr (Or.inl hi))
      rw [gUp_n _ _ hne] at this
      exact this
    · have := h1 _ i1 (inF_succ.mpr (Or.inr ie))
      rw [gUp_s] at this
      exact this
theorem mt_old {g : gr} {row : Nat → Int32} {e p : Nat} {se vt th : Nat → Nat} (hp : p < e) (hv : et_isv (row p)) (hn : inF row (row p) p = true) : mtP g row e se vt th p ↔ vt (row p - 97).toNatClampNeg = se p ∧ mtP g row e se vt th (p + 1) := by
  rw [mt_var hp hv]
  obtain ⟨i1, -, -⟩ := et_isv_in hv
  have ie := isv_nI hv
  have hb : inF row (nI (97 + (row p - 97).toNatClampNeg)) p = true := by rw [← ie]; exact hn
  constructor
  · rintro ⟨h1, h2, h3⟩
    refine ⟨by rw [← h1 _ i1 hb]; exact h2, fun v hv3 hi => ?_, h3⟩
    rcases inF_succ.mp hi with h | h
    · exact h1 v hv3 h
    · rw [ie] at h
      rw [← (nI_97 i1 hv3).mp h]
      exact h1 _ i1 hb
  · rintro ⟨h0, h1, h3⟩
    refine ⟨fun v hv3 hi => h1 v hv3 (inF_succ.mpr (Or.inl hi)), ?_, h3⟩
    rw [h1 _ i1 (inF_succ.mpr (Or.inl hb))]
    exact h0
theorem gFind_iff {g : gr} (dis : gDis g) {s : Int32} {l r c : Nat} : gFind g s l r = some c ↔ ∃ n, n < gN g ∧ gIs g s l r n ∧ gH g n = c := by
  constructor
  · exact fun h => gFindN_lt h
  · rintro ⟨n, h1, h2, h3⟩
    rw [← h3]
    exact gFindN_some h2 (fun i hi z => by have := dis i n (by omega) h1 (z.1.trans h2.1.symm) (z.2.1.trans h2.2.1.symm) (z.2.2.trans h2.2.2.symm); omega) h1
theorem gHome_look {g : gr} {s : Int32} {l r : Nat} : gHome false 40 (gI g) s l r = (gFind g s l r).map (fun c => (c, gI g)) := by
  unfold gHome
  cases gFind g s l r with
  | none => simp
  | some c => rfl
theorem map_up {se : Nat → Nat} {l : List Nat} {i v : Nat} (h : ∀ q ∈ l, q ≠ i) : l.map (gUp se i v) = l.map se := List.map_congr_left fun q hq => gUp_n _ _ (h q hq)
/-- a sign at place p -/
theorem mt_node {g : gr} {row : Nat → Int32} {mm : Nat → Nat} {e p : Nat} {se vt th : Nat → Nat} (hg : gG 40 g) (hw : wf mm row 0 e) (hp : p < e) (hv : ¬ et_isv (row p)) (hth : ∀ i, i < e → et_isv (row i) → th (row i - 97).toNatClampNeg < gC g) :
    mtP g row e se vt th p ↔ ∃ n, n < gN g ∧ gS g n = row p ∧ gH g n = se p ∧ mtP g row e (seU g (pw (row p)) ((stN row e (e - (p + 1))).getD 1 e) p n se) vt th (p + 1) := by
  obtain ⟨w1, w2, w3⟩ := hw.2.2.2 p (Nat.zero_le _) hp
  have hpp : et_pp (row p) = et_pt (row p) := by rw [et_pp, if_neg hv]
  have fst : ∀ v, v < 3 → (inF row (nI (97 + v)) (p + 1) = true ↔ inF row (nI (97 + v)) p = true) := fun v hv3 => by
    rw [inF_succ]
    constructor
    · rintro (h | h)
      · exact h
      · exfalso
        apply hv
        rw [h]
        rcases (show v = 0 ∨ v = 1 ∨ v = 2 by omega) with rfl | rfl | rfl <;> decide
    · exact Or.inl
  have hL := stN_len hw (e - (p + 1)) (by omega)
  rw [show e - (e - (p + 1)) = p + 1 by omega] at hL
  have inc := stN_inc (row := row) (show e - (p + 1) ≤ e by omega)
  have hd := fun (h : e - (p + 1) ≠ 0) => stN_hd (row := row) (e := e) h
  unfold mtP
  rw [sg_step hp, stN_step hp, List.map_cons, gEval]
  -- the stack behind p
  have len : ∀ stk x, gEval false 40 th (sg row e (e - (p + 1))) (gI g) = some (stk, x) → stk.length = mm (p + 1) := by
    intro stk x hs
    have := (gEval_ind (Pr := fun x => gG 40 x.1) (fun x s l r p1 p2 p3 p4 p5 p6 => gAdd_g p1 p2 p3 p4 p5 p6) (fun x p n hn => (p.1.2.2 n hn).1) hw (fun i _ hi => hth i hi) (x := gI g) hg (e - (p + 1)) (by omega) stk x hs).2.1
    rw [show e - (e - (p + 1)) = p + 1 by omega] at this
    exact this
  generalize hS : stN row e (e - (p + 1)) = S at hL inc hd ⊢
  have step : ∀ (l r : List Nat → Nat) (se' : Nat → Nat → Nat), (∀ stk, stk.length = mm (p + 1) → gPush false 40 th (row p) stk (gI g) = (gHome false 40 (gI g) (row p) (l stk) (r stk)).map (fun q => (q.1 :: stk.drop (pw (row p)), q.2))) →
      (∀ n, n < gN g → gS g n = row p → ∀ stk, stk.length = mm (p + 1) → ((l stk = gL g n ∧ r stk = gR g n ∧ stk.drop (pw (row p)) = (S.drop (pw (row p))).map se) ↔ stk = S.map (se' n))) →
      ((match gEval false 40 th (sg row e (e - (p + 1))) (gI g) with | none => none | some q => gPush false 40 th (row p) q.1 q.2) = some (se p :: (S.drop (pw (row p))).map se, gI g) ↔ ∃ n, n < gN g ∧ gS g n = row p ∧ gH g n = se p ∧ gEval false 40 th (sg row e (e - (p + 1))) (gI g) = some (S.map (se' n), gI g)) := by
    intro l r se' h1 h2
    cases hq : gEval false 40 th (sg row e (e - (p + 1))) (gI g) with
    | none => simp
    | some q =>
      obtain ⟨stk, x⟩ := q
      have ex := gEval_look hq
      subst ex
      have hlen := len stk _ hq
      simp only [h1 stk hlen, gHome_look]
      constructor
      · intro h
        cases hf : gFind g (row p) (l stk) (r stk) with
        | none => rw [hf] at h; simp at h
        | some c =>
          rw [hf] at h
          simp only [Option.map_some, Option.some.injEq, Prod.mk.injEq, List.cons.injEq] at h
          obtain ⟨n, n1, n2, n3⟩ := (gFind_iff hg.2.1).mp hf
          refine ⟨n, n1, n2.1, n3.trans h.1.1, ?_⟩
          rw [(h2 n n1 n2.1 stk hlen).mp ⟨n2.2.1.symm, n2.2.2.symm, h.1.2⟩]
      · rintro ⟨n, n1, n2, n3, n4⟩
        have e4 : stk = S.map (se' n) := (Prod.mk.inj (Option.some.inj n4)).1
        obtain ⟨m1, m2, m3⟩ := (h2 n n1 n2 stk hlen).mpr e4
        have hf : gFind g (row p) (l stk) (r stk) = some (se p) := (gFind_iff hg.2.1).mpr ⟨n, n1, ⟨n2, m1.symm, m2.symm⟩, n3⟩
        rw [hf, m3]
        rfl
  have wrap : ∀ (se' : Nat → Nat → Nat), ((match gEval false 40 th (sg row e (e - (p + 1))) (gI g) with | none => none | some q => gPush false 40 th (row p) q.1 q.2) = some (se p :: (S.drop (pw (row p))).map se, gI g) ↔ ∃ n, n < gN g ∧ gS g n = row p ∧ gH g n = se p ∧ gEval false 40 th (sg row e (e - (p + 1))) (gI g) = some (S.map (se' n), gI g)) →
      (((∀ v, v < 3 → inF row (nI (97 + v)) p = true → th v = vt v) ∧ (match gEval false 40 th (sg row e (e - (p + 1))) (gI g) with | none => none | some q => gPush false 40 th (row p) q.1 q.2) = some (se p :: (S.drop (pw (row p))).map se, gI g)) ↔ ∃ n, n < gN g ∧ gS g n = row p ∧ gH g n = se p ∧ (∀ v, v < 3 → inF row (nI (97 + v)) (p + 1) = true → th v = vt v) ∧ gEval false 40 th (sg row e (e - (p + 1))) (gI g) = some (S.map (se' n), gI g)) := by
    intro se' h
    rw [h]
    constructor
    · rintro ⟨h1, n, h2, h3, h4, h5⟩
      exact ⟨n, h2, h3, h4, fun v hv3 hi => h1 v hv3 ((fst v hv3).mp hi), h5⟩
    · rintro ⟨n, h2, h3, h4, h1, h5⟩
      exact ⟨fun v hv3 hi => h1 v hv3 ((fst v hv3).mpr hi), n, h2, h3, h4, h5⟩
  rcases et_pt_cases (row p) with ep | ep | ep | ep
  · rw [hpp] at w1; exact absurd ep w1
  · have e0 : pw (row p) = 0 := pw_0 (hpp.trans ep)
    rw [e0] at step wrap ⊢
    refine wrap (fun _ => se) (step (fun _ => 0) (fun _ => 0) (fun _ => se) (fun stk _ => gPush_0 hv ep) (fun n n1 n2 stk hl => ?_))
    have ha := hg.2.2.2 n n1
    rw [n2, ep] at ha
    simp only [List.drop_zero]
    constructor
    · exact fun h => h.2.2
    · intro h
      rcases ha with ⟨-, a2, a3⟩ | ⟨a1, -⟩ | ⟨a1, -⟩
      · exact ⟨a2.symm, a3.symm, h⟩
      · exact absurd a1 (by decide)
      · exact absurd a1 (by decide)
  · have e1 : pw (row p) = 1 := pw_1 (hpp.trans ep)
    rw [e1] at step wrap w2 ⊢
    obtain ⟨s0, S', rfl⟩ : ∃ s0 S', S = s0 :: S' := by
      cases S with
      | nil => simp at hL; omega
      | cons a b => exact ⟨a, b, rfl⟩
    have h0 : s0 = p + 1 := by
      by_cases z : e - (p + 1) = 0
      · rw [z] at hS; simp [stN] at hS
      · have := hd z; simp at this; omega
    subst h0
    refine wrap (fun n => gUp se (p + 1) (gL g n - 1)) (step (fun stk => stk.getD 0 0 + 1) (fun _ => 0) _ (fun stk _ => gPush_1 hv ep) (fun n n1 n2 stk hl => ?_))
    have ha := hg.2.2.2 n n1
    rw [n2, ep] at ha
    obtain ⟨c, stk', rfl⟩ : ∃ c stk', stk = c :: stk' := by
      cases stk with
      | nil => simp at hl; omega
      | cons a b => exact ⟨a, b, rfl⟩
    have hne : ∀ q ∈ S', q ≠ p + 1 := fun q hq => by have := (List.pairwise_cons.mp inc).1 q hq; omega
    rcases ha with ⟨a1, -⟩ | ⟨-, a2, a3⟩ | ⟨a1, -⟩
    · exact absurd a1 (by decide)
    · simp only [List.getD_cons_zero, List.drop_succ_cons, List.drop_zero, List.map_cons, gUp_s, map_up hne, List.cons.injEq]
      constructor
      · rintro ⟨h1, -, h3⟩; exact ⟨by omega, h3⟩
      · rintro ⟨h1, h3⟩; exact ⟨by omega, a3.symm, h3⟩
    · exact absurd a1 (by decide)
  · have e2 : pw (row p) = 2 := pw_2 (hpp.trans ep)
    rw [e2] at step wrap w2 ⊢
    obtain ⟨s0, s1, S', rfl⟩ : ∃ s0 s1 S', S = s0 :: s1 :: S' := by
      match S, hL with
      | [], hL => simp at hL; omega
      | [a], hL => simp at hL; omega
      | a :: b :: c, _ => exact ⟨a, b, c, rfl⟩
    have h0 : s0 = p + 1 := by
      by_cases z : e - (p + 1) = 0
      · rw [z] at hS; simp [stN] at hS
      · have := hd z; simp at this; omega
    subst h0
    refine wrap (fun n => gUp (gUp se (p + 1) (gL g n - 1)) s1 (gR g n - 1)) (step (fun stk => stk.getD 0 0 + 1) (fun stk => stk.getD 1 0 + 1) _ (fun stk _ => gPush_2 hv ep) (fun n n1 n2 stk hl => ?_))
    have ha := hg.2.2.2 n n1
    rw [n2, ep] at ha
    obtain ⟨c, c', stk', rfl⟩ : ∃ c c' stk', stk = c :: c' :: stk' := by
      match stk, hl with
      | [], hl => simp at hl; omega
      | [a], hl => simp at hl; omega
      | a :: b :: c, _ => exact ⟨a, b, c, rfl⟩
    have i1 := List.pairwise_cons.mp inc
    have i2 := List.pairwise_cons.mp i1.2
    have hne : ∀ q ∈ S', q ≠ p + 1 := fun q hq => by have := i1.1 q (List.mem_cons_of_mem _ hq); omega
    have hne2 : ∀ q ∈ S', q ≠ s1 := fun q hq => by have := i2.1 q hq; omega
    have h01 : p + 1 ≠ s1 := by have := i1.1 s1 (List.mem_cons_self); omega
    rcases ha with ⟨a1, -⟩ | ⟨a1, -⟩ | ⟨-, a2, a3⟩
    · exact absurd a1 (by decide)
    · exact absurd a1 (by decide)
    · simp only [List.getD_cons_zero, List.getD_cons_succ, List.drop_succ_cons, List.drop_zero, List.map_cons, gUp_s, gUp_n _ _ h01, map_up hne2, map_up hne, List.cons.injEq]
      constructor
      · rintro ⟨h1, h2, h3⟩; exact ⟨by omega, by omega, h3⟩
      · rintro ⟨h1, h2, h3⟩; exact ⟨by omega, by omega, h3⟩
