/-! ===== what a match does: the second side, and a join ===== -/
abbrev gact : Type := Nat × List Int32 × (Nat → Nat)
def doA (lim : Nat) (a : gact) (s : gx × Bool) : Option (gx × Bool) := match gEval true lim a.2.2 a.2.1 s.1 with
  | some (b :: _, y) => some (gJoin y a.1 b, s.2 || decide (y.2 a.1 ≠ y.2 b))
  | _ => none
def runA (lim : Nat) : List gact → gx × Bool → Option (gx × Bool)
  | [], s => some s
  | a :: l, s => match doA lim a s with
    | none => none
    | some s' => runA lim l s'
theorem runA_app {lim : Nat} : ∀ {l l' : List gact} {s s' : gx × Bool}, runA lim l s = some s' → runA lim (l ++ l') s = runA lim l' s'
  | [], l', s, s', h => by
    rw [runA] at h
    cases h
    rfl
  | a :: l, l', s, s', h => by
    rw [List.cons_append, runA]
    rw [runA] at h
    cases hd : doA lim a s with
    | none => rw [hd] at h; cases h
    | some s1 =>
      rw [hd] at h
      exact runA_app h
/-- the state of a round -/
def rdI (B : Nat) (g0 : gr) (y : gx) : Prop := gG B y.1 ∧ gLe g0 y.1 ∧ nOk y ∧ nId y
theorem gEval_le {gw : Bool} {lim B : Nat} {vs mm : Nat → Nat} {row : Nat → Int32} {fr to : Nat} {x x' : gx} {stk : List Nat} {k : Nat} (hB : lim ≤ B) (hw : wf mm row fr to) (hvs : ∀ i, fr ≤ i → i < to → et_isv (row i) → vs (row i - 97).toNatClampNeg < gC x.1) (h0 : gG B x.1) (hk : k ≤ to - fr) (h : gEval gw lim vs (sg row to k) x = some (stk, x')) : gLe x.1 x'.1 :=
  (gEval_ind (Pr := fun y => gG B y.1 ∧ gLe x.1 y.1) (fun y s l r p1 p2 p3 p4 p5 p6 => ⟨gAdd_g p1.1 p2 (by omega) p4 p5 p6, p1.2.trans (gAdd_le y s l r)⟩) (fun y p n hn => (p.1.1.2.2 n hn).1) hw hvs ⟨h0, gLe.refl _⟩ k hk stk x' h).1.2
theorem doA_ok {lim B : Nat} {g0 : gr} {a : gact} {s s' : gx × Bool} {mm : Nat → Nat} {row : Nat → Int32} {fr to : Nat} (hB : lim ≤ B) (I : rdI B g0 s.1) (ha : a.1 < gC g0) (hW : a.2.1 = sg row to (to - fr)) (hw : wf mm row fr to) (hvs : ∀ i, fr ≤ i → i < to → et_isv (row i) → a.2.2 (row i - 97).toNatClampNeg < gC g0) (h : doA lim a s = some s') : rdI B g0 s'.1 := by
  obtain ⟨i1, i2, i3, i4⟩ := I
  have hvs' : ∀ i, fr ≤ i → i < to → et_isv (row i) → a.2.2 (row i - 97).toNatClampNeg < gC s.1.1 := fun i h1 h2 h3 => Nat.lt_of_lt_of_le (hvs i h1 h2 h3) i2.2.1
  unfold doA at h
  rw [hW] at h
  cases hq : gEval true lim a.2.2 (sg row to (to - fr)) s.1 with
  | none => rw [hq] at h; cases h
  | some q =>
    obtain ⟨stk, y⟩ := q
    rw [hq] at h
    cases stk with
    | nil => cases h
    | cons b r =>
      have e := Option.some.inj h
      subst e
      obtain ⟨g1, g2, g3⟩ := gEval_g hB hw hvs' i1 (Nat.le_refl _) hq
      have le := gEval_le hB hw hvs' i1 (Nat.le_refl _) hq
      have nm := gEval_nm hw hvs' (fun n hn => (i1.1.2.2 n hn).1) (Nat.le_refl _) hq
      have nok : nOk y := fun c hc => by
        by_cases hc2 : c < gC s.1.1
        · rw [(nm c).1 hc2]; exact Nat.lt_of_lt_of_le (i3 c hc2) g2
        · rw [(nm c).2 (by omega) hc]; exact hc
      have nid : nId y := fun c hc => by
        by_cases hc2 : c < gC s.1.1
        · rw [(nm c).1 hc2, (nm _).1 (i3 c hc2)]; exact i4 c hc2
        · rw [(nm c).2 (by omega) hc, (nm c).2 (by omega) hc]
      obtain ⟨j1, j2⟩ := gJoin_ok nok nid (a := a.1) (b := b) (Nat.lt_of_lt_of_le ha (Nat.le_trans i2.2.1 g2)) (g3 b List.mem_cons_self)
      exact ⟨g1, i2.trans le, j1, j2⟩
/-- the round's own cells, the graph and the walk -/
def et_RH (y : gx) (ch : Bool) (se vt : Nat → Nat) (h : Nat → et_MC) : Prop := et_gh y h ∧ h 10 = .inr (5, [.ref 11, .ref 3, .ref 12]) ∧ (∃ va, h 11 = .inl (0, 3, .inl va) ∧ ∀ v, v < 3 → va v = nI (vt v)) ∧ (∃ st, h 12 = .inl (0, 60, .inl st)) ∧ h 13 = .inr (2, [.int (bI ch), .ref 3, .ref 10, .ref 14, .ref 15, .ref 16]) ∧ ∃ sa, h 14 = .inl (0, 7, .inl sa) ∧ ∀ q, q < 7 → sa q = nI (se q)
def et_f14 (h h' : Nat → et_MC) : Prop := ∀ k, (k < 3 ∨ k = 10 ∨ 14 < k) → h' k = h k
theorem et_RU.same {k : Nat} {row : Nat → Int32} {e len : Nat} {h h' : Nat → et_MC} (H : et_RU k row e len h) (hk : 85 ≤ k) (f : ∀ q, 85 ≤ q → h' q = h q) : et_RU k row e len h' := by
  obtain ⟨h1, h2, ⟨sp, h3, h4⟩, bd, h5, h6⟩ := H
  exact ⟨(f _ (by omega)).trans h1, (f _ (by omega)).trans h2, ⟨sp, (f _ (by omega)).trans h3, h4⟩, bd, (f _ (by omega)).trans h5, h6⟩
theorem rOk_pos {row : Nat → Int32} {e len p : Nat} (hr : rOk row e len) (hp : p < e) (h : pw (row p) ≠ 0) : p + 1 < e ∧ (pw (row p) = 2 → (stN row e (e - (p + 1))).getD 1 e < e) := by
  obtain ⟨⟨m1, hw⟩, -⟩ := hr
  obtain ⟨-, w2, w3⟩ := hw.2.2.2 p (Nat.zero_le _) hp
  have h1 : p + 1 < e := by
    rcases Nat.lt_or_ge (p + 1) e with z | z
    · exact z
    · rw [show p + 1 = e by omega, hw.2.2.1] at w2; omega
  refine ⟨h1, fun h2 => ?_⟩
  have hl := stN_len hw (e - (p + 1)) (by omega)
  rw [show e - (e - (p + 1)) = p + 1 by omega] at hl
  have hl2 : 1 < (stN row e (e - (p + 1))).length := by omega
  have : (stN row e (e - (p + 1))).getD 1 e = (stN row e (e - (p + 1)))[1] := by simp [List.getD, hl2]
  rw [this]
  exact stN_lt (by omega) (List.getElem_mem hl2)
