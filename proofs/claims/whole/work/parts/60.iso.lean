/-! ===== graphs that are the same but for the numbers of their classes ===== -/
theorem ph_le : ∀ {n m : Nat} {f : Nat → Nat}, (∀ i, i < m → f i < n) → (∀ i j, i < m → j < m → f i = f j → i = j) → m ≤ n
  | 0, m, f, h, _ => by
    cases m with
    | zero => exact Nat.le_refl _
    | succ m => exact absurd (h 0 (Nat.succ_pos _)) (Nat.not_lt_zero _)
  | n + 1, m, f, h, inj => by
    cases m with
    | zero => exact Nat.zero_le _
    | succ m =>
      refine Nat.succ_le_succ (ph_le (f := fun i => if f i = n then f m else f i) (fun i hi => ?_) (fun i j hi hj e => ?_))
      · show (if f i = n then f m else f i) < n
        have h1 := h i (by omega)
        have h2 := h m (by omega)
        split
        · rename_i e
          have : f m ≠ n := fun e2 => by have := inj i m (by omega) (by omega) (e.trans e2.symm); omega
          omega
        · omega
      · have e : (if f i = n then f m else f i) = (if f j = n then f m else f j) := e
        by_cases e1 : f i = n
        · by_cases e2 : f j = n
          · exact inj i j (by omega) (by omega) (e1.trans e2.symm)
          · rw [if_pos e1, if_neg e2] at e
            have := inj m j (by omega) (by omega) e
            omega
        · by_cases e2 : f j = n
          · rw [if_neg e1, if_pos e2] at e
            have := inj i m (by omega) (by omega) e
            omega
          · rw [if_neg e1, if_neg e2] at e
            exact inj i j (by omega) (by omega) e
theorem ph_sur {n : Nat} {f : Nat → Nat} (h : ∀ i, i < n → f i < n) (inj : ∀ i j, i < n → j < n → f i = f j → i = j) (j : Nat) (hj : j < n) : ∃ i, i < n ∧ f i = j := by
  refine Classical.byContradiction fun no => ?_
  have no' : ∀ i, i < n → f i ≠ j := fun i hi e => no ⟨i, hi, e⟩
  have := ph_le (n := n - 1) (m := n) (f := fun i => if f i = n - 1 then j else f i) (fun i hi => by
    show (if f i = n - 1 then j else f i) < n - 1
    have h1 := h i hi
    have h2 := no' i hi
    split <;> omega) (fun a b ha hb e => by
    have e : (if f a = n - 1 then j else f a) = (if f b = n - 1 then j else f b) := e
    have h1 := no' a ha
    have h2 := no' b hb
    by_cases e1 : f a = n - 1
    · by_cases e2 : f b = n - 1
      · exact inj a b ha hb (e1.trans e2.symm)
      · rw [if_pos e1, if_neg e2] at e; omega
    · by_cases e2 : f b = n - 1
      · rw [if_neg e1, if_pos e2] at e; omega
      · rw [if_neg e1, if_neg e2] at e; exact inj a b ha hb e)
  omega
/-- each node has its image -/
def gHom (σ : Nat → Nat) (g g' : gr) : Prop := (∀ a, a < gC g → σ a < gC g') ∧ ∀ n, n < gN g → ∃ n', n' < gN g' ∧ gIm σ g n g' n'
def gIso (σ ρ : Nat → Nat) (g g' : gr) : Prop := gHom σ g g' ∧ gHom ρ g' g ∧ (∀ a, a < gC g → ρ (σ a) = a) ∧ ∀ a, a < gC g' → σ (ρ a) = a
theorem gIso.symm {σ ρ : Nat → Nat} {g g' : gr} (h : gIso σ ρ g g') : gIso ρ σ g' g := ⟨h.2.1, h.1, h.2.2.2, h.2.2.1⟩
theorem up_inv {σ ρ : Nat → Nat} {C l : Nat} (h : ∀ a, a < C → ρ (σ a) = a) (hl : l ≤ C) : up ρ (up σ l) = l := by
  cases l with
  | zero => rfl
  | succ k => show ρ (σ k) + 1 = k + 1; rw [h k (by omega)]
theorem up_inj2 {σ : Nat → Nat} {C l l' : Nat} (inj : ∀ a b, a < C → b < C → σ a = σ b → a = b) (hl : l ≤ C) (hl' : l' ≤ C) (e : up σ l = up σ l') : l = l' := by
  cases l with
  | zero => cases l' with
    | zero => rfl
    | succ k => cases e
  | succ k => cases l' with
    | zero => cases e
    | succ k' =>
      have e : σ k + 1 = σ k' + 1 := e
      rw [inj k k' (by omega) (by omega) (by omega)]
theorem gIso.inj {σ ρ : Nat → Nat} {g g' : gr} (h : gIso σ ρ g g') : ∀ a b, a < gC g → b < gC g → σ a = σ b → a = b := fun a b ha hb e => by
  rw [← h.2.2.1 a ha, ← h.2.2.1 b hb, e]
theorem gIso.cle {σ ρ : Nat → Nat} {g g' : gr} (h : gIso σ ρ g g') : gC g ≤ gC g' := ph_le h.1.1 h.inj
theorem gIso.c {σ ρ : Nat → Nat} {g g' : gr} (h : gIso σ ρ g g') : gC g = gC g' := Nat.le_antisymm h.cle h.symm.cle
theorem gIso.nle {B : Nat} {σ ρ : Nat → Nat} {g g' : gr} (h : gIso σ ρ g g') (ok : gOk B g) (dis : gDis g) : gN g ≤ gN g' := by
  have ex : ∀ n, ∃ n', n < gN g → n' < gN g' ∧ gIm σ g n g' n' := fun n => by
    by_cases hn : n < gN g
    · obtain ⟨n', h1, h2⟩ := h.1.2 n hn
      exact ⟨n', fun _ => ⟨h1, h2⟩⟩
    · exact ⟨0, fun z => absurd z hn⟩
  refine ph_le (f := fun n => Classical.choose (ex n)) (fun i hi => (Classical.choose_spec (ex i) hi).1) (fun i j hi hj e => ?_)
  have a := (Classical.choose_spec (ex i) hi).2
  have b := (Classical.choose_spec (ex j) hj).2
  have e : Classical.choose (ex i) = Classical.choose (ex j) := e
  rw [← e] at b
  obtain ⟨a1, a2, a3, -⟩ := a
  obtain ⟨b1, b2, b3, -⟩ := b
  obtain ⟨-, o1, o2⟩ := ok.2.2 i hi
  obtain ⟨-, o3, o4⟩ := ok.2.2 j hj
  exact dis i j hi hj (a1.symm.trans b1) (up_inj2 h.inj o1 o3 (a2.symm.trans b2)) (up_inj2 h.inj o2 o4 (a3.symm.trans b3))
theorem gIso.n {B B' : Nat} {σ ρ : Nat → Nat} {g g' : gr} (h : gIso σ ρ g g') (G : gG B g) (G' : gG B' g') : gN g = gN g' := Nat.le_antisymm (h.nle G.1 G.2.1) (h.symm.nle G'.1 G'.2.1)
theorem gHom_find {σ : Nat → Nat} {g g' : gr} (h : gHom σ g g') (dis' : gDis g') {s : Int32} {l r c : Nat} (hf : gFind g s l r = some c) : gFind g' s (up σ l) (up σ r) = some (σ c) := by
  obtain ⟨n, h1, ⟨h2, h3, h4⟩, h5⟩ := gFindN_lt hf
  obtain ⟨n', k1, k2, k3, k4, k5⟩ := h.2 n h1
  exact (gFind_iff dis').mpr ⟨n', k1, ⟨k2.trans h2, by rw [k3, h3], by rw [k4, h4]⟩, by rw [k5, h5]⟩
theorem getD_map {σ : Nat → Nat} : ∀ {l : List Nat} {i : Nat}, i < l.length → (l.map σ).getD i 0 = σ (l.getD i 0)
  | [], i, h => absurd h (Nat.not_lt_zero _)
  | a :: l, 0, _ => rfl
  | a :: l, i + 1, h => by
    show (l.map σ).getD i 0 = σ (l.getD i 0)
    exact getD_map (by simpa using h)
theorem look_some {g : gr} {vs : Nat → Nat} {c : Int32} {stk stk' : List Nat} {y : gx} {lim : Nat} (h : gPush false lim vs c stk (gI g) = some (stk', y)) : y = gI g := by
  have h2 : gEval false lim (fun _ => 0) [] (gI g) = some ([], gI g) := rfl
  have hm : ∀ l r (p : Nat), (gHome false lim (gI g) c l r).map (fun q => (q.1 :: stk.drop p, q.2)) = some (stk', y) → y = gI g := by
    intro l r p hm
    cases hh : gHome false lim (gI g) c l r with
    | none => rw [hh] at hm; cases hm
    | some q =>
      rw [hh] at hm
      obtain ⟨c', x'⟩ := q
      cases hm
      rcases gHome_cases hh with ⟨-, e⟩ | ⟨-, e, -⟩
      · exact e
      · cases e
  by_cases hv : et_isv c
  · rw [gPush_v hv] at h; cases h; rfl
  · rcases et_pt_cases c with e | e | e | e
    · have : gPush false lim vs c stk (gI g) = (gHome false lim (gI g) c 0 0).map (fun q => (q.1 :: stk.drop 0, q.2)) := by
        unfold gPush
        rw [if_neg hv, if_neg (by rw [e]; decide), if_neg (by rw [e]; decide)]
        rfl
      rw [this] at h; exact hm _ _ _ h
    · rw [gPush_0 hv e] at h; exact hm _ _ _ h
    · rw [gPush_1 hv e] at h; exact hm _ _ _ h
    · rw [gPush_2 hv e] at h; exact hm _ _ _ h
theorem gHome_look2 {g : gr} {s : Int32} {l r lim : Nat} : gHome false lim (gI g) s l r = (gFind g s l r).map (fun c => (c, gI g)) := by
  unfold gHome
  cases gFind g s l r with
  | none => simp
  | some c => rfl
theorem pw_pt {c : Int32} (hv : ¬ et_isv c) (h1 : et_pp c ≠ -1) : (et_pt c = 0 ∧ pw c = 0) ∨ (et_pt c = 1 ∧ pw c = 1) ∨ (et_pt c = 2 ∧ pw c = 2) := by
  have e : et_pp c = et_pt c := by rw [et_pp, if_neg hv]
  rcases et_pt_cases c with h | h | h | h
  · exact absurd (e.trans h) h1
  · exact Or.inl ⟨h, pw_0 (e.trans h)⟩
  · exact Or.inr (Or.inl ⟨h, pw_1 (e.trans h)⟩)
  · exact Or.inr (Or.inr ⟨h, pw_2 (e.trans h)⟩)
/-- one character at a time: a character's home from its place in the stack -/
def pL (c : Int32) (stk : List Nat) : Nat := if pw c = 0 then 0 else stk.getD 0 0 + 1
def pR (c : Int32) (stk : List Nat) : Nat := if pw c = 2 then stk.getD 1 0 + 1 else 0
theorem gPush_h {gw : Bool} {lim : Nat} {vs : Nat → Nat} {c : Int32} {stk : List Nat} {x : gx} (hv : ¬ et_isv c) (h1 : et_pp c ≠ -1) : gPush gw lim vs c stk x = (gHome gw lim x c (pL c stk) (pR c stk)).map (fun q => (q.1 :: stk.drop (pw c), q.2)) := by
  unfold pL pR
  rcases pw_pt hv h1 with ⟨a, b⟩ | ⟨a, b⟩ | ⟨a, b⟩
  · rw [gPush_0 hv a, b, if_pos rfl, if_neg (by decide)]
  · rw [gPush_1 hv a, b, if_neg (by decide), if_neg (by decide)]
  · rw [gPush_2 hv a, b, if_neg (by decide), if_pos rfl]
theorem pL_map {σ : Nat → Nat} {c : Int32} {stk : List Nat} (h : pw c ≤ stk.length) : pL c (stk.map σ) = up σ (pL c stk) := by
  unfold pL
  by_cases e : pw c = 0
  · rw [if_pos e, if_pos e]; rfl
  · rw [if_neg e, if_neg e, getD_map (by omega)]; rfl
theorem pR_map {σ : Nat → Nat} {c : Int32} {stk : List Nat} (h : pw c ≤ stk.length) : pR c (stk.map σ) = up σ (pR c stk) := by
  unfold pR
  by_cases e : pw c = 2
  · rw [if_pos e, if_pos e, getD_map (by omega)]; rfl
  · rw [if_neg e, if_neg e]; rfl
theorem getD_mem {l : List Nat} {i : Nat} (h : i < l.length) : l.getD i 0 ∈ l := by
  rw [List.getD_eq_getElem?_getD, List.getElem?_eq_getElem h]
  exact List.getElem_mem h
theorem pL_le {c : Int32} {stk : List Nat} {C : Nat} (h : pw c ≤ stk.length) (hc : ∀ a ∈ stk, a < C) : pL c stk ≤ C := by
  unfold pL
  by_cases e : pw c = 0
  · rw [if_pos e]; exact Nat.zero_le _
  · rw [if_neg e]; exact hc _ (getD_mem (by omega))
theorem pR_le {c : Int32} {stk : List Nat} {C : Nat} (h : pw c ≤ stk.length) (hc : ∀ a ∈ stk, a < C) : pR c stk ≤ C := by
  unfold pR
  by_cases e : pw c = 2
  · rw [if_pos e]; exact hc _ (getD_mem (by omega))
  · rw [if_neg e]; exact Nat.zero_le _
theorem gEval_hom {B lim lim' : Nat} {σ vs vs' mm : Nat → Nat} {row : Nat → Int32} {fr to : Nat} {g g' : gr} (H : gHom σ g g') (G : gG B g) (dis' : gDis g') (hw : wf mm row fr to) (hvs : ∀ i, fr ≤ i → i < to → et_isv (row i) → vs (row i - 97).toNatClampNeg < gC g ∧ vs' (row i - 97).toNatClampNeg = σ (vs (row i - 97).toNatClampNeg)) : ∀ k, k ≤ to - fr → ∀ stk y, gEval false lim vs (sg row to k) (gI g) = some (stk, y) → gEval false lim' vs' (sg row to k) (gI g') = some (stk.map σ, gI g')
  | 0, _, stk, y, h => by
    rw [sg, gEval] at h ⊢
    cases h
    rfl
  | k + 1, hk, stk, y, h => by
    obtain ⟨stk1, x1, h1, h2⟩ := gEval_succ h
    have e1 := gEval_look h1
    subst e1
    obtain ⟨-, i2, -, i4⟩ := gEval_ind (Pr := fun y => ∀ n, n < gN y.1 → gH y.1 n < gC y.1) (lim := lim) (fun x s l r p _ _ _ _ _ n hn => by
      have hn : n < gN x.1 + 1 := hn
      show gUp (gH x.1) (gN x.1) (gC x.1) n < gC x.1 + 1
      by_cases e : n = gN x.1
      · subst e; rw [gUp_s]; omega
      · rw [gUp_n _ _ e]; have := p n (by omega); omega) (fun x p => p) hw (fun i a b c => (hvs i a b c).1) (fun n hn => (G.1.2.2 n hn).1) k (by omega) stk1 (gI g) h1
    have ih := gEval_hom (lim' := lim') H G dis' hw hvs k (by omega) stk1 (gI g) h1
    rw [sg, gEval, ih]
    show gPush false lim' vs' (row (to - (k + 1))) (stk1.map σ) (gI g') = _
    generalize hj : to - (k + 1) = j at h2 ⊢
    obtain ⟨w1, w2, w3⟩ := hw.2.2.2 j (by omega) (by omega)
    rw [show to - k = j + 1 by omega] at i2
    by_cases hv : et_isv (row j)
    · rw [gPush_v hv] at h2 ⊢
      cases h2
      rw [(hvs j (by omega) (by omega) hv).2]
      rfl
    · have hl : pw (row j) ≤ stk1.length := by omega
      rw [gPush_h hv w1, gHome_look2] at h2 ⊢
      rw [pL_map hl, pR_map hl]
      cases hf : gFind g (row j) (pL (row j) stk1) (pR (row j) stk1) with
      | none => rw [show gFind (gI g).1 _ _ _ = _ from hf] at h2; cases h2
      | some c =>
        rw [show gFind (gI g).1 _ _ _ = _ from hf] at h2
        rw [show gFind (gI g').1 _ _ _ = _ from gHom_find H dis' hf]
        cases h2
        show some (σ c :: (stk1.map σ).drop (pw (row j)), gI g') = _
        rw [List.map_cons, List.map_drop]
/-- what is looked up is the same -/
theorem gIso_look {B B' lim lim' : Nat} {σ ρ vs vs' mm : Nat → Nat} {row : Nat → Int32} {fr to : Nat} {g g' : gr} (I : gIso σ ρ g g') (G : gG B g) (G' : gG B' g') (hw : wf mm row fr to) (hvs : ∀ i, fr ≤ i → i < to → et_isv (row i) → vs (row i - 97).toNatClampNeg < gC g ∧ vs' (row i - 97).toNatClampNeg = σ (vs (row i - 97).toNatClampNeg)) : gEval false lim' vs' (sg row to (to - fr)) (gI g') = (gEval false lim vs (sg row to (to - fr)) (gI g)).map (fun q => (q.1.map σ, gI g')) := by
  cases h : gEval false lim vs (sg row to (to - fr)) (gI g) with
  | some q =>
    obtain ⟨stk, y⟩ := q
    exact gEval_hom I.1 G G'.2.1 hw hvs _ (Nat.le_refl _) stk y h
  | none =>
    cases h' : gEval false lim' vs' (sg row to (to - fr)) (gI g') with
    | none => rfl
    | some q =>
      obtain ⟨stk, y⟩ := q
      have := gEval_hom (lim' := lim) (vs' := vs) I.2.1 G' G.2.1 hw (fun i a b c => by
        obtain ⟨h1, h2⟩ := hvs i a b c
        rw [h2]
        exact ⟨I.1.1 _ h1, (I.2.2.1 _ h1).symm⟩) _ (Nat.le_refl _) stk y h'
      rw [this] at h
      cases h
/-- a graph that has grown: a new node has a new class -/
def gNw (g y : gr) : Prop := gLe g y ∧ gC y + gN g = gC g + gN y ∧ ∀ n, gN g ≤ n → n < gN y → gH y n + gN g = gC g + n
theorem gNw.refl (g : gr) : gNw g g := ⟨gLe.refl _, Nat.add_comm _ _ ▸ by omega, fun n h1 h2 => by omega⟩
theorem gNw_add {g : gr} {x : gx} {s : Int32} {l r : Nat} (h : gNw g x.1) : gNw g (gAdd x s l r).1 := by
  obtain ⟨h1, h2, h3⟩ := h
  refine ⟨h1.trans (gAdd_le x s l r), ?_, fun n a b => ?_⟩
  · show gC x.1 + 1 + gN g = gC g + (gN x.1 + 1)
    omega
  · have b : n < gN x.1 + 1 := b
    show gUp (gH x.1) (gN x.1) (gC x.1) n + gN g = gC g + n
    by_cases e : n = gN x.1
    · subst e; rw [gUp_s]; omega
    · rw [gUp_n _ _ e]; exact h3 n a (by omega)
/-- x, grown from g, lies in y', grown from g' -/
def gEm (g g' x y' : gr) (σ τ : Nat → Nat) : Prop := (∀ a, a < gC g → τ a = σ a) ∧ (∀ a, gC g ≤ a → a < gC x → gC g' ≤ τ a) ∧ (∀ a b, a < gC x → b < gC x → τ a = τ b → a = b) ∧ gHom τ x y'
theorem up_lt {τ τ' : Nat → Nat} {C l : Nat} (h : ∀ a, a < C → τ' a = τ a) (hl : l ≤ C) : up τ' l = up τ l := by
  cases l with
  | zero => rfl
  | succ k => show τ' k + 1 = τ k + 1; rw [h k (by omega)]
theorem gEm_add {B B' : Nat} {g g' y' : gr} {x : gx} {σ ρ τ : Nat → Nat} {s : Int32} {l r c : Nat} (I : gIso σ ρ g g') (G0' : gOk B g') (ok : gOk B' x.1) (nw : gNw g x.1) (nw' : gNw g' y') (E : gEm g g' x.1 y' σ τ) (hf : gFind x.1 s l r = none) (hl : l ≤ gC x.1) (hr : r ≤ gC x.1) (hc : gFind y' s (up τ l) (up τ r) = some c) : gEm g g' (gAdd x s l r).1 y' σ (gUp τ (gC x.1) c) := by
  obtain ⟨e1, e2, e3, e4, e5⟩ := E
  obtain ⟨n', k1, ⟨k2, k3, k4⟩, k5⟩ := gFindN_lt hc
  have no := gFindN_none.mp hf
  obtain ⟨nw1, nw2, nw3⟩ := nw
  obtain ⟨mw1, mw2, mw3⟩ := nw'
  have old : ∀ q, q ≤ gC x.1 → up τ q ≤ gC g' → q ≤ gC g ∧ up τ q = up σ q := by
    intro q hq hu
    cases q with
    | zero => exact ⟨Nat.zero_le _, rfl⟩
    | succ q =>
      have hu : τ q + 1 ≤ gC g' := hu
      have : q < gC g := by
        refine Nat.lt_of_not_le fun z => ?_
        have := e2 q z (by omega)
        omega
      exact ⟨this, by show τ q + 1 = σ q + 1; rw [e1 q this]⟩
  have s1 : gN g' ≤ n' := by
    refine Nat.le_of_not_lt fun z => ?_
    obtain ⟨f1, f2, f3, f4⟩ := mw1.2.2 n' z
    obtain ⟨o1, o2, o3⟩ := G0'.2.2 n' z
    rw [← f2, k3] at o2
    rw [← f3, k4] at o3
    obtain ⟨a1, a2⟩ := old l hl o2
    obtain ⟨b1, b2⟩ := old r hr o3
    obtain ⟨m, m1, m2, m3, m4, m5⟩ := I.2.1.2 n' z
    refine no m (Nat.lt_of_lt_of_le m1 nw1.1) ?_
    obtain ⟨p1, p2, p3, p4⟩ := nw1.2.2 m m1
    refine ⟨?_, ?_, ?_⟩
    · rw [p1, m2, ← f1, k2]
    · rw [p2, m3, ← f2, k3, a2, up_inv I.2.2.1 a1]
    · rw [p3, m4, ← f3, k4, b2, up_inv I.2.2.1 b1]
  have s2 := mw3 n' s1 k1
  rw [k5] at s2
  have s3 : ∀ a, a < gC x.1 → τ a ≠ c := by
    intro a ha z
    have ha2 : gC g ≤ a := by
      refine Nat.le_of_not_lt fun z2 => ?_
      have := I.1.1 a z2
      rw [← e1 a z2, z] at this
      omega
    obtain ⟨m', q1, q2, q3, q4, q5⟩ := e5 (gN g + (a - gC g)) (by omega)
    have hm := nw3 (gN g + (a - gC g)) (by omega) (by omega)
    have hm2 : gH x.1 (gN g + (a - gC g)) = a := by omega
    rw [hm2, z] at q5
    have q6 : gN g' ≤ m' := by
      refine Nat.le_of_not_lt fun z2 => ?_
      have := (G0'.2.2 m' z2).1
      rw [← (mw1.2.2 m' z2).2.2.2, q5] at this
      omega
    have q7 := mw3 m' q6 q1
    rw [q5] at q7
    have q8 : m' = n' := by omega
    subst q8
    obtain ⟨-, o2, o3⟩ := ok.2.2 (gN g + (a - gC g)) (by omega)
    exact no (gN g + (a - gC g)) (by omega) ⟨q2.symm.trans k2, up_inj2 e3 o2 hl (q3.symm.trans k3), up_inj2 e3 o3 hr (q4.symm.trans k4)⟩
  have keep : ∀ a, a < gC x.1 → gUp τ (gC x.1) c a = τ a := fun a ha => gUp_n _ _ (by omega)
  have new : gUp τ (gC x.1) c (gC x.1) = c := gUp_s _ _ _
  have cc : gC (gAdd x s l r).1 = gC x.1 + 1 := rfl
  have cn : gN (gAdd x s l r).1 = gN x.1 + 1 := rfl
  have c9 : c < gC y' := by
    rw [← k5]
    have := mw3 n' s1 k1
    omega
  refine ⟨fun a ha => ?_, fun a h1 h2 => ?_, fun a b ha hb e => ?_, fun a ha => ?_, fun n hn => ?_⟩
  · rw [keep a (Nat.lt_of_lt_of_le ha nw1.2.1)]; exact e1 a ha
  · rw [cc] at h2
    by_cases z : a = gC x.1
    · rw [z, new]; omega
    · rw [keep a (by omega)]; exact e2 a h1 (by omega)
  · rw [cc] at ha hb
    by_cases z : a = gC x.1
    · by_cases z2 : b = gC x.1
      · omega
      · rw [z, new, keep b (by omega)] at e
        exact absurd e.symm (s3 b (by omega))
    · by_cases z2 : b = gC x.1
      · rw [z2, new, keep a (by omega)] at e
        exact absurd e (s3 a (by omega))
      · rw [keep a (by omega), keep b (by omega)] at e
        exact e3 a b (by omega) (by omega) e
  · rw [cc] at ha
    by_cases z : a = gC x.1
    · rw [z, new]; exact c9
    · rw [keep a (by omega)]; exact e4 a (by omega)
  · rw [cn] at hn
    by_cases z : n = gN x.1
    · subst z
      refine ⟨n', k1, ?_, ?_, ?_, ?_⟩
      · show _ = gUp (gS x.1) (gN x.1) s (gN x.1); rw [gUp_s]; exact k2
      · show _ = up _ (gUp (gL x.1) (gN x.1) l (gN x.1)); rw [gUp_s, up_lt keep hl]; exact k3
      · show _ = up _ (gUp (gR x.1) (gN x.1) r (gN x.1)); rw [gUp_s, up_lt keep hr]; exact k4
      · show _ = gUp τ (gC x.1) c (gUp (gH x.1) (gN x.1) (gC x.1) (gN x.1)); rw [gUp_s, new]; exact k5
    · obtain ⟨m', q1, q2, q3, q4, q5⟩ := e5 n (by omega)
      obtain ⟨o1, o2, o3⟩ := ok.2.2 n (by omega)
      refine ⟨m', q1, ?_, ?_, ?_, ?_⟩
      · show _ = gUp (gS x.1) (gN x.1) s n; rw [gUp_n _ _ z]; exact q2
      · show _ = up _ (gUp (gL x.1) (gN x.1) l n); rw [gUp_n _ _ z, up_lt keep o2]; exact q3
      · show _ = up _ (gUp (gR x.1) (gN x.1) r n); rw [gUp_n _ _ z, up_lt keep o3]; exact q4
      · show _ = gUp τ (gC x.1) c (gUp (gH x.1) (gN x.1) (gC x.1) n); rw [gUp_n _ _ z, keep _ o1]; exact q5
theorem gEval_nw {gw : Bool} {lim B : Nat} {g : gr} {vs mm : Nat → Nat} {row : Nat → Int32} {fr to : Nat} {x x' : gx} {stk : List Nat} {k : Nat} (hB : lim ≤ B) (hw : wf mm row fr to) (hvs : ∀ i, fr ≤ i → i < to → et_isv (row i) → vs (row i - 97).toNatClampNeg < gC x.1) (h0 : gG B x.1) (nw : gNw g x.1) (hk : k ≤ to - fr) (h : gEval gw lim vs (sg row to k) x = some (stk, x')) : gG B x'.1 ∧ gNw g x'.1 ∧ stk.length = mm (to - k) ∧ gC x.1 ≤ gC x'.1 ∧ ∀ c ∈ stk, c < gC x'.1 := by
  obtain ⟨a, b, c, d⟩ := gEval_ind (Pr := fun y => gG B y.1 ∧ gNw g y.1) (fun y s l r p1 p2 p3 p4 p5 p6 => ⟨gAdd_g p1.1 p2 (by omega) p4 p5 p6, gNw_add p1.2⟩) (fun y p n hn => (p.1.1.2.2 n hn).1) hw hvs ⟨h0, nw⟩ k hk stk x' h
  exact ⟨a.1, a.2, b, c, d⟩
theorem gEval_em {B B0 lim lim' : Nat} {g g' y' : gr} {σ ρ τ vs vs' mm : Nat → Nat} {row : Nat → Int32} {fr to : Nat} {x : gx} (I : gIso σ ρ g g') (G0' : gOk B0 g') (hB : lim ≤ B) (G : gG B x.1) (dis' : gDis y') (nw : gNw g x.1) (nw' : gNw g' y') (E : gEm g g' x.1 y' σ τ) (hw : wf mm row fr to) (hvs : ∀ i, fr ≤ i → i < to → et_isv (row i) → vs (row i - 97).toNatClampNeg < gC g ∧ vs' (row i - 97).toNatClampNeg = σ (vs (row i - 97).toNatClampNeg)) : ∀ k, k ≤ to - fr → ∀ stk x1 stk', gEval true lim vs (sg row to k) x = some (stk, x1) → gEval false lim' vs' (sg row to k) (gI y') = some (stk', gI y') → ∃ τ1, gEm g g' x1.1 y' σ τ1 ∧ stk' = stk.map τ1
  | 0, _, stk, x1, stk', h, h' => by
    rw [sg, gEval] at h h'
    cases h
    cases h'
    exact ⟨τ, E, rfl⟩
  | k + 1, hk, stk, x1, stk', h, h' => by
    obtain ⟨stk1, x2, h1, h2⟩ := gEval_succ h
    obtain ⟨stk2, y2, h3, h4⟩ := gEval_succ h'
    have e1 := gEval_look h3
    subst e1
    have hC : gC g ≤ gC x.1 := nw.1.2.1
    have hvs' : ∀ i, fr ≤ i → i < to → et_isv (row i) → vs (row i - 97).toNatClampNeg < gC x.1 := fun i a b c => Nat.lt_of_lt_of_le (hvs i a b c).1 hC
    obtain ⟨i1, i2, i3, i4, i5⟩ := gEval_nw hB hw hvs' G nw (by omega) h1
    obtain ⟨τ1, E1, es⟩ := gEval_em (lim' := lim') I G0' hB G dis' nw nw' E hw hvs k (by omega) stk1 x2 stk2 h1 h3
    subst es
    generalize hj : to - (k + 1) = j at h2 h4
    obtain ⟨w1, w2, w3⟩ := hw.2.2.2 j (by omega) (by omega)
    rw [show to - k = j + 1 by omega] at i3
    by_cases hv : et_isv (row j)
    · rw [gPush_v hv] at h2 h4
      cases h2
      cases h4
      obtain ⟨v1, v2⟩ := hvs j (by omega) (by omega) hv
      refine ⟨τ1, E1, ?_⟩
      rw [v2, ← E1.1 _ v1]
      rfl
    · have hl : pw (row j) ≤ stk1.length := by omega
      rw [gPush_h hv w1] at h2 h4
      rw [gHome_look2, pL_map hl, pR_map hl] at h4
      cases hf' : gFind (gI y').1 (row j) (up τ1 (pL (row j) stk1)) (up τ1 (pR (row j) stk1)) with
      | none => rw [hf'] at h4; cases h4
      | some c' =>
        rw [hf'] at h4
        cases hh : gHome true lim x2 (row j) (pL (row j) stk1) (pR (row j) stk1) with
        | none => rw [hh] at h2; cases h2
        | some q =>
          obtain ⟨c, x3⟩ := q
          rw [hh] at h2
          cases h2
          cases h4
          rcases gHome_cases hh with ⟨a1, a2⟩ | ⟨a1, -, -, a2, a3⟩
          · subst a2
            have := gHom_find E1.2.2.2 dis' a1
            rw [show gFind (gI y').1 _ _ _ = gFind y' _ _ _ from rfl, this] at hf'
            cases hf'
            exact ⟨τ1, E1, by rw [List.map_cons, List.map_drop]⟩
          · subst a2 a3
            refine ⟨_, gEm_add I G0' i1.1 i2 nw' E1 a1 (pL_le hl i5) (pR_le hl i5) hf', ?_⟩
            rw [List.map_cons, gUp_s]
            congr 1
            rw [← List.map_drop]
            refine List.map_congr_left fun q hq => ?_
            rw [gUp_n]
            have := i5 q (List.mem_of_mem_drop hq)
            omega
