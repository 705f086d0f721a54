/-! ===== what a run of matches is, whatever their order ===== -/
theorem gIs_le {g g' : gr} (le : gLe g g') {s : Int32} {l r n : Nat} (hn : n < gN g) (h : gIs g s l r n) : gIs g' s l r n ∧ gH g' n = gH g n := by
  obtain ⟨e1, e2, e3, e4⟩ := le.2.2 n hn
  exact ⟨⟨e1.trans h.1, e2.trans h.2.1, e3.trans h.2.2⟩, e4⟩
theorem gFind_le {g g' : gr} (le : gLe g g') (dis : gDis g') {s : Int32} {l r c : Nat} (h : gFind g s l r = some c) : gFind g' s l r = some c := by
  obtain ⟨n, h1, h2, h3⟩ := gFindN_lt h
  obtain ⟨h4, h5⟩ := gIs_le le h1 h2
  exact (gFind_iff dis).mpr ⟨n, Nat.lt_of_lt_of_le h1 le.1, h4, h5.trans h3⟩
theorem gHome_find {gw : Bool} {lim : Nat} {x x' : gx} {s : Int32} {l r c : Nat} (h : gHome gw lim x s l r = some (c, x')) (dis : gDis x'.1) : gFind x'.1 s l r = some c := by
  rcases gHome_cases h with ⟨h1, h2⟩ | ⟨h1, -, -, h4, h5⟩
  · rw [h2]; exact h1
  · subst h4 h5
    exact (gFind_iff dis).mpr ⟨gN x.1, Nat.lt_succ_self _, ⟨gUp_s _ _ _, gUp_s _ _ _, gUp_s _ _ _⟩, gUp_s _ _ _⟩
/-- one character, looked up in a graph that has all that it made -/
theorem gPush_look {gw : Bool} {lim lim' : Nat} {vs : Nat → Nat} {c : Int32} {stk stk' : List Nat} {x x' : gx} {g : gr} (h : gPush gw lim vs c stk x = some (stk', x')) (dis' : gDis x'.1) (le : gLe x'.1 g) (dis : gDis g) : gPush false lim' vs c stk (gI g) = some (stk', gI g) := by
  have hm : ∀ l r (p : Nat), (gHome gw lim x c l r).map (fun q => (q.1 :: stk.drop p, q.2)) = some (stk', x') → (gHome false lim' (gI g) c l r).map (fun q => (q.1 :: stk.drop p, q.2)) = some (stk', gI g) := by
    intro l r p hm
    cases hh : gHome gw lim x c l r with
    | none => rw [hh] at hm; cases hm
    | some q =>
      rw [hh] at hm
      have e := Option.some.inj hm
      have e1 := (Prod.mk.inj e).1
      have e2 : q.2 = x' := (Prod.mk.inj e).2
      have hf := gFind_le le dis (gHome_find (c := q.1) (x' := x') (by rw [← e2]; exact hh) dis')
      unfold gHome
      rw [hf]
      simp only [Option.map_some, Option.some.injEq]
      exact Prod.ext e1 rfl
  simp only [gPush] at h ⊢
  split at h
  · rename_i hv; rw [if_pos hv]; cases h; rfl
  · rename_i hv
    rw [if_neg hv]
    split at h
    · rename_i h2; rw [if_pos h2]; exact hm _ _ 2 h
    · rename_i h2
      rw [if_neg h2]
      split at h
      · rename_i h3; rw [if_pos h3]; exact hm _ _ 1 h
      · rename_i h3; rw [if_neg h3]; exact hm _ _ 0 h
/-- what was made is found -/
theorem gEval_found {gw : Bool} {lim lim' B : Nat} {vs mm : Nat → Nat} {row : Nat → Int32} {fr to : Nat} {x : gx} {g : gr} (hB : lim ≤ B) (hw : wf mm row fr to) (hvs : ∀ i, fr ≤ i → i < to → et_isv (row i) → vs (row i - 97).toNatClampNeg < gC x.1) (h0 : gG B x.1) (dis : gDis g) : ∀ k, k ≤ to - fr → ∀ stk x', gEval gw lim vs (sg row to k) x = some (stk, x') → gLe x'.1 g → gEval false lim' vs (sg row to k) (gI g) = some (stk, gI g)
  | 0, _, stk, x', h, _ => by
    rw [sg, gEval] at h ⊢
    cases h
    rfl
  | k + 1, hk, stk', x', h, le => by
    obtain ⟨stk, x1, h1, h2⟩ := gEval_succ h
    have G' := (gEval_g hB hw hvs h0 hk h).1
    have le1 : gLe x1.1 x'.1 := by
      have Gx := gEval_g hB hw hvs h0 (show k ≤ to - fr by omega) h1
      have := gEval_ind (Pr := fun y => gG B y.1 ∧ gLe x.1 y.1) (gw := gw) (lim := lim) (fun y s l r p1 p2 p3 p4 p5 p6 => ⟨gAdd_g p1.1 p2 (by omega) p4 p5 p6, p1.2.trans (gAdd_le y s l r)⟩) (fun y p n hn => (p.1.1.2.2 n hn).1) hw hvs ⟨h0, gLe.refl _⟩ k (by omega) stk x1 h1
      have hm : ∀ l r (g : Nat × gx → List Nat × gx), (∀ q, (g q).2 = q.2) → (gHome gw lim x1 (row (to - (k + 1))) l r).map g = some (stk', x') → gLe x1.1 x'.1 := by
        intro l r g hg hm
        cases hh : gHome gw lim x1 (row (to - (k + 1))) l r with
        | none => rw [hh] at hm; cases hm
        | some q =>
          rw [hh] at hm
          have e := Option.some.inj hm
          have e2 : q.2 = x' := by have := hg q; rw [e] at this; exact this.symm
          rcases gHome_cases (c := q.1) (x' := q.2) hh with ⟨-, z⟩ | ⟨-, -, -, z, -⟩
          · rw [← e2, z]; exact gLe.refl _
          · rw [← e2, z]; exact gAdd_le _ _ _ _
      simp only [gPush] at h2
      split at h2
      · cases h2; exact gLe.refl _
      · split at h2
        · exact hm _ _ _ (fun _ => rfl) h2
        · split at h2
          · exact hm _ _ _ (fun _ => rfl) h2
          · exact hm _ _ _ (fun _ => rfl) h2
    rw [sg, gEval, gEval_found hB hw hvs h0 dis k (by omega) stk x1 h1 (le1.trans le)]
    exact gPush_look h2 G'.2.1 le dis
/-- where a node is made, a class of the stack is new -/
theorem gEval_new {lim B : Nat} {vs mm : Nat → Nat} {row : Nat → Int32} {fr to : Nat} {x : gx} (hB : lim ≤ B) (hw : wf mm row fr to) (hvs : ∀ i, fr ≤ i → i < to → et_isv (row i) → vs (row i - 97).toNatClampNeg < gC x.1) (h0 : gG B x.1) : ∀ k, k ≤ to - fr → ∀ stk x', gEval true lim vs (sg row to k) x = some (stk, x') → (x' = x ∨ ∃ c ∈ stk, gC x.1 ≤ c) ∧ ∀ n, gN x.1 ≤ n → n < gN x'.1 → gC x.1 ≤ gH x'.1 n
  | 0, _, stk, x', h => by
    rw [sg, gEval] at h
    cases h
    exact ⟨Or.inl rfl, fun n h1 h2 => absurd h2 (by omega)⟩
  | k + 1, hk, stk', x', h => by
    obtain ⟨stk, x1, h1, h2⟩ := gEval_succ h
    obtain ⟨ih1, ih2⟩ := gEval_new hB hw hvs h0 k (by omega) stk x1 h1
    obtain ⟨q1, q2, q3, q4⟩ := gEval_ind (Pr := fun y => gG B y.1 ∧ gLe x.1 y.1) (gw := true) (lim := lim) (fun y s l r p1 p2 p3 p4 p5 p6 => ⟨gAdd_g p1.1 p2 (by omega) p4 p5 p6, p1.2.trans (gAdd_le y s l r)⟩) (fun y p n hn => (p.1.1.2.2 n hn).1) hw hvs ⟨h0, gLe.refl _⟩ k (by omega) stk x1 h1
    have le1 := q1.2
    generalize hj : to - (k + 1) = j at h2
    obtain ⟨w1, w2, w3⟩ := hw.2.2.2 j (by omega) (by omega)
    rw [show to - k = j + 1 by omega] at q2
    -- a node one of whose parts is new is new
    have home : ∀ (l r p : Nat), p ≤ stk.length → (∀ c ∈ stk.take p, gC x.1 ≤ c → gC x.1 < l ∨ gC x.1 < r) → (gHome true lim x1 (row j) l r).map (fun q => (q.1 :: stk.drop p, q.2)) = some (stk', x') → (x' = x ∨ ∃ c ∈ stk', gC x.1 ≤ c) ∧ ∀ n, gN x.1 ≤ n → n < gN x'.1 → gC x.1 ≤ gH x'.1 n := by
      intro l r p hp hch hm
      cases hq : gHome true lim x1 (row j) l r with
      | none => rw [hq] at hm; cases hm
      | some q =>
        obtain ⟨c, x2⟩ := q
        rw [hq] at hm
        cases hm
        rcases gHome_cases hq with ⟨e1, e2⟩ | ⟨e1, -, -, e4, e5⟩
        · subst e2
          refine ⟨?_, ih2⟩
          rcases ih1 with z | ⟨c', z1, z2⟩
          · exact Or.inl z
          · rw [← List.take_append_drop p stk] at z1
            rcases List.mem_append.mp z1 with z1 | z1
            · obtain ⟨i, i1, i2, i3⟩ := gFindN_lt e1
              refine Or.inr ⟨c, List.mem_cons_self, ?_⟩
              rw [← i3]
              refine ih2 i (Nat.not_lt.mp fun z3 => ?_) i1
              obtain ⟨f1, f2, f3, f4⟩ := le1.2.2 i z3
              obtain ⟨b1, b2, b3⟩ := h0.1.2.2 i z3
              have hc := hch c' z1 z2
              rw [← i2.2.1, ← i2.2.2, f2, f3] at hc
              omega
            · exact Or.inr ⟨c', List.mem_cons_of_mem _ z1, z2⟩
        · subst e4 e5
          refine ⟨Or.inr ⟨_, List.mem_cons_self, le1.2.1⟩, fun n n1 n2 => ?_⟩
          have n2' : n < gN x1.1 + 1 := n2
          show gC x.1 ≤ gUp (gH x1.1) (gN x1.1) (gC x1.1) n
          by_cases e : n = gN x1.1
          · rw [e, gUp_s]; exact le1.2.1
          · rw [gUp_n _ _ e]; exact ih2 n n1 (by omega)
    by_cases hv : et_isv (row j)
    · rw [gPush_v hv] at h2
      cases h2
      refine ⟨?_, ih2⟩
      rcases ih1 with z | ⟨c', z1, z2⟩
      · exact Or.inl z
      · exact Or.inr ⟨c', List.mem_cons_of_mem _ z1, z2⟩
    · have hpp : et_pp (row j) = et_pt (row j) := by rw [et_pp, if_neg hv]
      rcases et_pt_cases (row j) with e | e | e | e
      · rw [hpp] at w1; exact absurd e w1
      · rw [gPush_0 hv e] at h2
        exact home 0 0 0 (Nat.zero_le _) (fun c hc => by simp at hc) h2
      · have ep := pw_1 (hpp.trans e)
        rw [gPush_1 hv e] at h2
        refine home _ 0 1 (by omega) (fun c hc hc2 => ?_) h2
        match stk, q2, hc with
        | [], q2, hc => simp at hc
        | a :: s, _, hc =>
          have : c = a := by simpa using hc
          subst this
          exact Or.inl (by show gC x.1 < c + 1; omega)
      · have ep := pw_2 (hpp.trans e)
        rw [gPush_2 hv e] at h2
        refine home _ _ 2 (by omega) (fun c hc hc2 => ?_) h2
        match stk, q2, hc with
        | [], _, hc => simp at hc
        | [a], q2, _ => simp at q2; omega
        | a :: b :: s, _, hc =>
          have : c = a ∨ c = b := by simpa using hc
          rcases this with z | z
          · subst z; exact Or.inl (by show gC x.1 < c + 1; omega)
          · subst z; exact Or.inr (by show gC x.1 < c + 1; omega)
/-- an action that can be done in a graph -/
def aOk (g0 : gr) (a : gact) : Prop := a.1 < gC g0 ∧ ∃ (row : Nat → Int32) (fr to : Nat) (m : Nat → Nat), a.2.1 = sg row to (to - fr) ∧ wf m row fr to ∧ ∀ i, fr ≤ i → i < to → et_isv (row i) → a.2.2 (row i - 97).toNatClampNeg < gC g0
/-- the class that the second side of an action has in a graph -/
def aTo (g : gr) (a : gact) (b : Nat) : Prop := gEval false 40 a.2.2 a.2.1 (gI g) = some ([b], gI g)
theorem doA_inv {lim B : Nat} {g0 : gr} {a : gact} {s s' : gx × Bool} (hB : lim ≤ B) (I : rdI B g0 s.1) (ha : aOk g0 a) (h : doA lim a s = some s') : ∃ b y, gEval true lim a.2.2 a.2.1 s.1 = some ([b], y) ∧ s' = (gJoin y a.1 b, s.2 || decide (y.2 a.1 ≠ y.2 b)) ∧ gG B y.1 ∧ gLe s.1.1 y.1 ∧ b < gC y.1 ∧ a.1 < gC s.1.1 ∧ (∀ c, (c < gC s.1.1 → y.2 c = s.1.2 c) ∧ (gC s.1.1 ≤ c → c < gC y.1 → y.2 c = c)) ∧ (y = s.1 ∨ gC s.1.1 ≤ b) := by
  obtain ⟨h1, row, fr, to, m, hW, hw, hvs⟩ := ha
  obtain ⟨i1, i2, i3, i4⟩ := I
  have hvs' : ∀ i, fr ≤ i → i < to → et_isv (row i) → a.2.2 (row i - 97).toNatClampNeg < gC s.1.1 := fun i a1 a2 a3 => Nat.lt_of_lt_of_le (hvs i a1 a2 a3) i2.2.1
  unfold doA at h
  rw [hW] at h ⊢
  cases hq : gEval true lim a.2.2 (sg row to (to - fr)) s.1 with
  | none => rw [hq] at h; cases h
  | some q =>
    obtain ⟨stk, y⟩ := q
    rw [hq] at h
    have hlen := (gEval_ind (Pr := fun y => gG B y.1) (gw := true) (lim := lim) (fun y s l r p1 p2 p3 p4 p5 p6 => gAdd_g p1 p2 (by omega) p4 p5 p6) (fun y p n hn => (p.1.2.2 n hn).1) hw hvs' i1 (to - fr) (Nat.le_refl _) stk y hq).2.1
    rw [show to - (to - fr) = fr by have := hw.1; omega, hw.2.1] at hlen
    match stk, hlen, h, hq with
    | [b], _, h, hq =>
      obtain ⟨g1, g2, g3⟩ := gEval_g hB hw hvs' i1 (Nat.le_refl _) hq
      have nw := (gEval_new hB hw hvs' i1 (to - fr) (Nat.le_refl _) _ _ hq).1
      refine ⟨b, y, rfl, (Option.some.inj h).symm, g1, gEval_le hB hw hvs' i1 (Nat.le_refl _) hq, g3 b List.mem_cons_self, Nat.lt_of_lt_of_le h1 i2.2.1, gEval_nm hw hvs' (fun n hn => (i1.1.2.2 n hn).1) (Nat.le_refl _) hq, ?_⟩
      rcases nw with z | ⟨c, z1, z2⟩
      · exact Or.inl z
      · rw [List.mem_singleton.mp z1] at z2; exact Or.inr z2
theorem aTo_of {lim B : Nat} {g0 g : gr} {a : gact} {x y : gx} {b : Nat} (hB : lim ≤ B) (ha : aOk g0 a) (hx : gG B x.1) (le0 : gLe g0 x.1) (h : gEval true lim a.2.2 a.2.1 x = some ([b], y)) (le : gLe y.1 g) (dis : gDis g) : aTo g a b := by
  obtain ⟨-, row, fr, to, m, hW, hw, hvs⟩ := ha
  unfold aTo
  rw [hW] at h ⊢
  exact gEval_found hB hw (fun i a1 a2 a3 => Nat.lt_of_lt_of_le (hvs i a1 a2 a3) le0.2.1) hx dis (to - fr) (Nat.le_refl _) _ _ h le
theorem aTo_one {g : gr} {a : gact} {b b' : Nat} (h : aTo g a b) (h' : aTo g a b') : b = b' := by
  have := h.symm.trans h'
  simpa using this
/-- a run: what it leaves -/
theorem runA_sem {lim B : Nat} {g0 : gr} (hB : lim ≤ B) : ∀ (A : List gact) (s s' : gx × Bool), rdI B g0 s.1 → (∀ a ∈ A, aOk g0 a) → runA lim A s = some s' →
    rdI B g0 s'.1 ∧ gLe s.1.1 s'.1.1 ∧ (∀ u v, u < gC s.1.1 → v < gC s.1.1 → s.1.2 u = s.1.2 v → s'.1.2 u = s'.1.2 v) ∧ (∀ a ∈ A, ∃ b, b < gC s'.1.1 ∧ aTo s'.1.1 a b ∧ s'.1.2 a.1 = s'.1.2 b) ∧
    (∀ R : Nat → Nat → Prop, gEqv R → (∀ u v, u < gC s.1.1 → v < gC s.1.1 → s.1.2 u = s.1.2 v → R u v) → (∀ a ∈ A, ∀ b, aTo s'.1.1 a b → R a.1 b) → ∀ u v, u < gC s'.1.1 → v < gC s'.1.1 → s'.1.2 u = s'.1.2 v → R u v) ∧
    (s'.2 = false → s'.1.1 = s.1.1 ∧ (∀ c, c < gC s.1.1 → s'.1.2 c = s.1.2 c)) ∧ (s.2 = false → (∀ c, c < gC s.1.1 → s.1.2 c = c) → (∀ a ∈ A, ∀ b, aTo s'.1.1 a b → b = a.1) → s'.2 = false) ∧ (s.2 = true → s'.2 = true)
  | [], s, s', I, _, h => by
    rw [runA] at h
    cases h
    exact ⟨I, gLe.refl _, fun _ _ _ _ e => e, fun a ha => (by cases ha), fun R _ h1 _ => h1, fun _ => ⟨rfl, fun _ _ => rfl⟩, fun h _ _ => h, fun h => h⟩
  | a :: A, s, s', I, hA, h => by
    rw [runA] at h
    cases hd : doA lim a s with
    | none => rw [hd] at h; cases h
    | some s1 =>
      rw [hd] at h
      have ha := hA a List.mem_cons_self
      obtain ⟨b, y, e1, e2, e3, e4, e5, e6, e7, e8⟩ := doA_inv hB I ha hd
      obtain ⟨-, row, fr, to, m, hW, hw, hvs⟩ := id ha
      have I1 : rdI B g0 s1.1 := doA_ok hB I ha.1 hW hw hvs hd
      obtain ⟨r1, r2, r3, r4, r5, r6, r7, r8⟩ := runA_sem hB A s1 s' I1 (fun a ha => hA a (List.mem_cons_of_mem _ ha)) h
      subst e2
      have le1 : gLe y.1 s'.1.1 := r2
      have aT : aTo s'.1.1 a b := aTo_of hB ha I.1 I.2.1 e1 le1 r1.1.2.1
      have hay : a.1 < gC y.1 := Nat.lt_of_lt_of_le e6 e4.2.1
      have sub : ∀ u v, u < gC y.1 → v < gC y.1 → y.2 u = y.2 v → s'.1.2 u = s'.1.2 v := fun u v hu hv e => r3 u v hu hv (gJoin_sub e)
      refine ⟨r1, e4.trans r2, fun u v hu hv e => ?_, fun a' ha' => ?_, fun R h1 h2 h3 => ?_, fun hf => ?_, fun h1 h2 h3 => ?_, fun h1 => ?_⟩
      · exact sub u v (Nat.lt_of_lt_of_le hu e4.2.1) (Nat.lt_of_lt_of_le hv e4.2.1) (by rw [(e7 u).1 hu, (e7 v).1 hv]; exact e)
      · rcases List.mem_cons.mp ha' with z | z
        · subst z
          exact ⟨b, Nat.lt_of_lt_of_le e5 le1.2.1, aT, r3 _ _ hay e5 gJoin_eq⟩
        · exact r4 a' z
      · refine r5 R h1 (gJoin_snd h1 (fun u v hu hv e => ?_) (h3 a List.mem_cons_self b aT) hay e5) (fun a' ha' => h3 a' (List.mem_cons_of_mem _ ha'))
        by_cases hu2 : u < gC s.1.1 <;> by_cases hv2 : v < gC s.1.1
        · rw [(e7 u).1 hu2, (e7 v).1 hv2] at e; exact h2 u v hu2 hv2 e
        · rw [(e7 u).1 hu2, (e7 v).2 (by omega) hv] at e
          have := I.2.2.1 u hu2; omega
        · rw [(e7 u).2 (by omega) hu, (e7 v).1 hv2] at e
          have := I.2.2.1 v hv2; omega
        · rw [(e7 u).2 (by omega) hu, (e7 v).2 (by omega) hv] at e
          rw [e]; exact h1.1 _
      · -- nothing changed
        have hs1 : (s.2 || decide (y.2 a.1 ≠ y.2 b)) = false := by
          cases hc : (s.2 || decide (y.2 a.1 ≠ y.2 b)) with
          | false => rfl
          | true => exact absurd (r8 hc) (by rw [hf]; decide)
        have hab : y.2 a.1 = y.2 b := by
          have := (Bool.or_eq_false_iff.mp hs1).2
          simpa using this
        have hy : y = s.1 := by
          rcases e8 with z | z
          · exact z
          · rw [(e7 a.1).1 e6, (e7 b).2 z e5] at hab
            have := I.2.2.1 a.1 e6
            omega
        obtain ⟨q1, q2⟩ := r6 hf
        refine ⟨q1.trans (by rw [hy]; rfl), fun c hc => ?_⟩
        rw [q2 c (by show c < gC y.1; rw [hy]; exact hc)]
        show (if y.2 c = y.2 b then y.2 a.1 else y.2 c) = s.1.2 c
        by_cases z : y.2 c = y.2 b
        · rw [if_pos z, hab, ← z, hy]
        · rw [if_neg z, hy]
      · -- all pairs are trivial
        have hba : b = a.1 := h3 a List.mem_cons_self b aT
        subst hba
        have hy : y = s.1 := by
          rcases e8 with z | z
          · exact z
          · omega
        refine r7 ?_ (fun c hc => ?_) (fun a' ha' => h3 a' (List.mem_cons_of_mem _ ha'))
        · show (s.2 || decide (y.2 a.1 ≠ y.2 a.1)) = false
          rw [h1]
          simp
        · have hc' : c < gC y.1 := hc
          rw [hy] at hc'
          show (if y.2 c = y.2 a.1 then y.2 a.1 else y.2 c) = c
          rw [hy, h2 c hc', h2 a.1 e6]
          by_cases z : c = a.1
          · rw [if_pos z, z]
          · rw [if_neg z]
      · exact r8 (by show (s.2 || _) = true; rw [h1]; rfl)
