/-! ===== a round of the class and a round of the model ===== -/
theorem gG.mono {B B' : Nat} {g : gr} (h : gG B g) (hb : B ≤ B') : gG B' g := ⟨⟨Nat.le_trans h.1.1 hb, h.1.2⟩, h.2⟩
theorem gG.cut {B B' : Nat} {g : gr} (h : gG B g) (hb : gN g ≤ B') : gG B' g := ⟨⟨hb, h.1.2⟩, h.2⟩
theorem runA_evs {lim : Nat} : ∀ {A : List gact} {s s' : gx × Bool}, runA lim A s = some s' → evs lim (A.map (fun a => a.2)) s.1.1 s'.1.1
  | [], s, s', h => by
    rw [runA] at h
    cases h
    exact evs.nil _
  | a :: A, s, s', h => by
    rw [runA] at h
    cases hd : doA lim a s with
    | none => rw [hd] at h; cases h
    | some s1 =>
      rw [hd] at h
      unfold doA at hd
      cases he : gEval true lim a.2.2 a.2.1 s.1 with
      | none => rw [he] at hd; cases hd
      | some q =>
        obtain ⟨stk, y⟩ := q
        rw [he] at hd
        cases stk with
        | nil => cases hd
        | cons b stk =>
          cases hd
          exact evs.cons rfl he (runA_evs (s := (gJoin y a.1 b, _)) h)
theorem aOk_iOk {g : gr} {a : gact} (h : aOk g a) : iOk (gC g) a.2 := by
  obtain ⟨-, row, fr, to, m, h1, h2, h3⟩ := h
  exact ⟨row, fr, to, m, h1, h2, h3⟩
theorem gPush_cases {vs : Nat → Nat} {c : Int32} {stk : List Nat} : (∀ gw lim x, gPush gw lim vs c stk x = some (vs (c - 97).toNatClampNeg :: stk, x)) ∨ ∃ l r p, ∀ gw lim x, gPush gw lim vs c stk x = (gHome gw lim x c l r).map (fun q => (q.1 :: stk.drop p, q.2)) := by
  by_cases hv : et_isv c
  · exact Or.inl fun gw lim x => gPush_v hv
  · refine Or.inr ?_
    by_cases h2 : et_pt c = 2
    · exact ⟨_, _, _, fun gw lim x => gPush_2 hv h2⟩
    · by_cases h1 : et_pt c = 1
      · exact ⟨_, _, _, fun gw lim x => gPush_1 hv h1⟩
      · refine ⟨0, 0, 0, fun gw lim x => ?_⟩
        unfold gPush
        rw [if_neg hv, if_neg h2, if_neg h1]
        rfl
theorem gHome_mono {lim lim' : Nat} (hl : lim ≤ lim') {x : gx} {s : Int32} {l r : Nat} {q : Nat × gx} (h : gHome true lim x s l r = some q) : gHome true lim' x s l r = some q := by
  obtain ⟨c, x'⟩ := q
  rcases gHome_cases h with ⟨a, b⟩ | ⟨a, -, b, c1, c2⟩
  · subst b; unfold gHome; rw [a]
  · subst c1 c2; unfold gHome; rw [a]; exact if_pos ⟨rfl, by omega⟩
theorem gEval_mono {lim lim' : Nat} {vs : Nat → Nat} (hl : lim ≤ lim') : ∀ {w : List Int32} {x : gx} {q : List Nat × gx}, gEval true lim vs w x = some q → gEval true lim' vs w x = some q
  | [], x, q, h => h
  | c :: w, x, q, h => by
    rw [gEval] at h ⊢
    cases he : gEval true lim vs w x with
    | none => rw [he] at h; cases h
    | some p =>
      rw [he] at h
      rw [gEval_mono hl he]
      have h : gPush true lim vs c p.1 p.2 = some q := h
      show gPush true lim' vs c p.1 p.2 = some q
      rcases gPush_cases (vs := vs) (c := c) (stk := p.1) with e | ⟨l, r, k, e⟩
      · rw [e] at h ⊢; exact h
      · rw [e] at h ⊢
        cases hh : gHome true lim p.2 c l r with
        | none => rw [hh] at h; cases h
        | some z => rw [hh] at h; rw [gHome_mono hl hh]; exact h
theorem runA_mono {lim lim' : Nat} (hl : lim ≤ lim') : ∀ {A : List gact} {s s' : gx × Bool}, runA lim A s = some s' → runA lim' A s = some s'
  | [], s, s', h => h
  | a :: A, s, s', h => by
    rw [runA] at h ⊢
    cases hd : doA lim a s with
    | none => rw [hd] at h; cases h
    | some s1 =>
      have hd' : doA lim' a s = some s1 := by
        unfold doA at hd ⊢
        cases he : gEval true lim a.2.2 a.2.1 s.1 with
        | none => rw [he] at hd; cases hd
        | some q => rw [he] at hd; rw [gEval_mono hl he]; exact hd
      rw [hd] at h
      rw [hd']
      exact runA_mono hl h
/-- with room enough every term is made; with too little room it passes it -/
theorem gEval_tot {lim lim' : Nat} {vs : Nat → Nat} : ∀ {w : List Int32} {x : gx}, gN x.1 + w.length ≤ lim' → ∃ stk y, gEval true lim' vs w x = some (stk, y) ∧ gN x.1 ≤ gN y.1 ∧ gN y.1 ≤ gN x.1 + w.length ∧ (gEval true lim vs w x = some (stk, y) ∨ lim < gN y.1 ∨ lim' ≤ lim)
  | [], x, _ => ⟨[], x, rfl, Nat.le_refl _, Nat.le_refl _, Or.inl rfl⟩
  | c :: w, x, h => by
    have h : gN x.1 + (w.length + 1) ≤ lim' := h
    obtain ⟨stk, y, h1, h2, h3, h4⟩ := gEval_tot (lim := lim) (vs := vs) (w := w) (x := x) (lim' := lim') (by omega)
    rw [gEval, gEval, h1]
    show ∃ (stk' : List Nat) (y' : gx), gPush true lim' vs c stk y = _ ∧ _ ∧ gN y'.1 ≤ gN x.1 + (w.length + 1) ∧ _
    rcases gPush_cases (vs := vs) (c := c) (stk := stk) with e | ⟨l, r, k, e⟩
    · refine ⟨_, y, e _ _ _, h2, by omega, ?_⟩
      rcases h4 with a | a
      · rw [a]; exact Or.inl (e _ _ _)
      · exact Or.inr a
    · have big : ∃ cc y', gHome true lim' y c l r = some (cc, y') ∧ gN y.1 ≤ gN y'.1 ∧ gN y'.1 ≤ gN y.1 + 1 ∧ (gHome true lim y c l r = some (cc, y') ∨ lim < gN y'.1) := by
        cases hf : gFind y.1 c l r with
        | some cc => exact ⟨cc, y, by unfold gHome; rw [hf], Nat.le_refl _, Nat.le_succ _, Or.inl (by unfold gHome; rw [hf])⟩
        | none =>
          have q1 : gHome true lim' y c l r = some (gC y.1, gAdd y c l r) := by
            unfold gHome; rw [hf]; exact if_pos ⟨rfl, by omega⟩
          refine ⟨_, _, q1, Nat.le_succ _, Nat.le_refl _, ?_⟩
          by_cases z : gN y.1 < lim
          · refine Or.inl ?_
            unfold gHome; rw [hf]; exact if_pos ⟨rfl, z⟩
          · exact Or.inr (by show lim < gN y.1 + 1; omega)
      obtain ⟨cc, y', b1, b2, b3, b4⟩ := big
      refine ⟨cc :: stk.drop k, y', by rw [e, b1]; rfl, by omega, by omega, ?_⟩
      rcases h4 with a | a
      · rcases b4 with b | b
        · rw [a]; exact Or.inl (show gPush true lim vs c stk y = _ by rw [e, b]; rfl)
        · exact Or.inr (Or.inl b)
      · exact Or.inr (by omega)
theorem sg_length {row : Nat → Int32} {to : Nat} : ∀ {k : Nat}, (sg row to k).length = k
  | 0 => rfl
  | k + 1 => by rw [sg, List.length_cons, sg_length]
/-- the model's round: full, or done -/
def mdFull (g : gr) (ru : Nat → prul) (rc : Nat) : Prop := ∃ A s1, (∀ a ∈ A, okA g ru rc a) ∧ runA 1000 A (gI g, false) = some s1 ∧ 40 < gN s1.1.1
def mdStep (g : gr) (ru : Nat → prul) (rc : Nat) (g' : gr) (ch : Bool) : Prop := ∃ A s', allA g ru rc A ∧ runA 1000 A (gI g, false) = some s' ∧ gN s'.1.1 ≤ 40 ∧ s'.2 = ch ∧ gQuot s'.1.1 (PA A s'.1.1) g'
theorem gI_rd {B : Nat} {g : gr} (G : gG B g) : rdI B g (gI g) := ⟨G, gLe.refl _, fun _ hc => hc, fun _ _ => rfl⟩
theorem rd_full {g : gr} {ru : Nat → prul} {rc : Nat} (G : gG 40 g) (hr : rusOk ru rc) (h : rdFull 40 g ru rc) : mdFull g ru rc := by
  obtain ⟨A, s1, a, h1, h2, h3, h4⟩ := h
  have r1 := (runA_sem (Nat.le_refl 40) A (gI g, false) s1 (gI_rd G) (fun a ha => okA_aOk hr (h1 a ha)) h3).1
  have a1 := okA_aOk hr h2
  obtain ⟨r, b1, b2, b3, b4, b5⟩ := h2
  obtain ⟨-, -, c1, c2, c3, -⟩ := hr r b1
  have hlen : a.2.1.length ≤ 60 := by rw [b3, sg_length]; omega
  obtain ⟨stk, y, e1, e2, e3, e4⟩ := gEval_tot (lim := 40) (lim' := 1000) (vs := a.2.2) (w := a.2.1) (x := s1.1) (by have := r1.1.1.1; omega)
  obtain ⟨-, row, fr, to, m, k1, k2, k3⟩ := a1
  have hvs : ∀ i, fr ≤ i → i < to → et_isv (row i) → a.2.2 (row i - 97).toNatClampNeg < gC s1.1.1 := fun i q1 q2 q3 => Nat.lt_of_lt_of_le (k3 i q1 q2 q3) r1.2.1.2.1
  have e10 := e1
  rw [k1] at e10
  obtain ⟨-, -, n3, -, -⟩ := gEval_nw (B := 1000) (g := s1.1.1) (Nat.le_refl _) k2 hvs (r1.1.mono (by omega)) (gNw.refl _) (Nat.le_refl _) e10
  rw [show to - (to - fr) = fr by have := k2.1; omega, k2.2.1] at n3
  have fin : runA 1000 (A ++ [a]) (gI g, false) = doA 1000 a s1 := by
    rw [runA_app (runA_mono (lim' := 1000) (by omega) h3), runA]
    cases doA 1000 a s1 <;> rfl
  cases stk with
  | nil => cases n3
  | cons b stk =>
    have hd : doA 1000 a s1 = some (gJoin y a.1 b, s1.2 || decide (y.2 a.1 ≠ y.2 b)) := by unfold doA; rw [e1]
    refine ⟨A ++ [a], _, fun q hq => ?_, fin.trans hd, ?_⟩
    · rcases List.mem_append.mp hq with hq | hq
      · exact h1 q hq
      · cases List.mem_singleton.mp hq; exact ⟨r, b1, b2, b3, b4, b5⟩
    · rcases e4 with z | z | z
      · unfold doA at h4
        rw [z] at h4
        cases h4
      · exact z
      · omega
theorem rd_step {g g' : gr} {ru : Nat → prul} {rc : Nat} {ch : Bool} (G : gG 40 g) (hr : rusOk ru rc) (h : rdStep 40 g ru rc g' ch) : mdStep g ru rc g' ch := by
  obtain ⟨A, s', h1, h2, h3, h4⟩ := h
  have r1 := (runA_sem (Nat.le_refl 40) A (gI g, false) s' (gI_rd G) (fun a ha => okA_aOk hr (h1.1 a ha)) h2).1
  exact ⟨A, s', h1, runA_mono (by omega) h2, r1.1.1.1, h3, h4⟩
