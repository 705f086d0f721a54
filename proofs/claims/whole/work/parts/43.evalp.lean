/-! ===== what evaluating keeps ===== -/
theorem gHome_cases {gw : Bool} {lim : Nat} {x x' : gx} {s : Int32} {l r c : Nat} (h : gHome gw lim x s l r = some (c, x')) : (gFind x.1 s l r = some c ∧ x' = x) ∨ (gFind x.1 s l r = none ∧ gw = true ∧ gN x.1 < lim ∧ x' = gAdd x s l r ∧ c = gC x.1) := by
  cases hf : gFind x.1 s l r with
  | some c' =>
    simp only [gHome, hf] at h
    cases h
    exact Or.inl ⟨rfl, rfl⟩
  | none =>
    simp only [gHome, hf] at h
    by_cases e : gw = true ∧ gN x.1 < lim
    · rw [if_pos e] at h
      cases h
      exact Or.inr ⟨rfl, e.1, e.2, rfl, rfl⟩
    · rw [if_neg e] at h
      cases h
theorem gEval_succ {gw : Bool} {lim : Nat} {vs : Nat → Nat} {row : Nat → Int32} {to k : Nat} {x : gx} {q : List Nat × gx} (h : gEval gw lim vs (sg row to (k + 1)) x = some q) : ∃ stk x1, gEval gw lim vs (sg row to k) x = some (stk, x1) ∧ gPush gw lim vs (row (to - (k + 1))) stk x1 = some q := by
  rw [sg, gEval] at h
  cases hq : gEval gw lim vs (sg row to k) x with
  | none => rw [hq] at h; cases h
  | some p =>
    rw [hq] at h
    exact ⟨p.1, p.2, rfl, h⟩
theorem gEval_ind {Pr : gx → Prop} {gw : Bool} {lim : Nat} {vs mm : Nat → Nat} {row : Nat → Int32} {fr to : Nat} {x : gx} (hA : ∀ (x : gx) (s : Int32) (l r : Nat), Pr x → gFind x.1 s l r = none → gN x.1 < lim → l ≤ gC x.1 → r ≤ gC x.1 → (et_pt s = 0 ∧ l = 0 ∧ r = 0 ∨ et_pt s = 1 ∧ l ≠ 0 ∧ r = 0 ∨ et_pt s = 2 ∧ l ≠ 0 ∧ r ≠ 0) → Pr (gAdd x s l r)) (hB : ∀ x : gx, Pr x → ∀ n, n < gN x.1 → gH x.1 n < gC x.1)
    (hw : wf mm row fr to) (hvs : ∀ i, fr ≤ i → i < to → et_isv (row i) → vs (row i - 97).toNatClampNeg < gC x.1) (h0 : Pr x) : ∀ k, k ≤ to - fr → ∀ stk x', gEval gw lim vs (sg row to k) x = some (stk, x') → Pr x' ∧ stk.length = mm (to - k) ∧ gC x.1 ≤ gC x'.1 ∧ ∀ c ∈ stk, c < gC x'.1
  | 0, _, stk, x', h => by
    rw [sg, gEval] at h
    cases h
    exact ⟨h0, by rw [Nat.sub_zero, hw.2.2.1]; rfl, Nat.le_refl _, fun c hc => by cases hc⟩
  | k + 1, hk, stk', x', h => by
    obtain ⟨stk, x1, h1, h2⟩ := gEval_succ h
    obtain ⟨p1, p2, p3, p4⟩ := gEval_ind hA hB hw hvs h0 k (by omega) stk x1 h1
    generalize hj : to - (k + 1) = j at h2
    obtain ⟨w1, w2, w3⟩ := hw.2.2.2 j (by omega) (by omega)
    rw [show to - k = j + 1 by omega] at p2
    have home : ∀ (l r p : Nat), p = pw (row j) → l ≤ gC x1.1 → r ≤ gC x1.1 → (et_pt (row j) = 0 ∧ l = 0 ∧ r = 0 ∨ et_pt (row j) = 1 ∧ l ≠ 0 ∧ r = 0 ∨ et_pt (row j) = 2 ∧ l ≠ 0 ∧ r ≠ 0) → (gHome gw lim x1 (row j) l r).map (fun q => (q.1 :: stk.drop p, q.2)) = some (stk', x') → Pr x' ∧ stk'.length = mm j ∧ gC x.1 ≤ gC x'.1 ∧ ∀ c ∈ stk', c < gC x'.1 := by
      intro l r p hp hl hr har hm
      cases hq : gHome gw lim x1 (row j) l r with
      | none => rw [hq] at hm; cases hm
      | some q =>
        obtain ⟨c, x2⟩ := q
        rw [hq] at hm
        cases hm
        have hlen : (c :: stk.drop p).length = mm j := by
          rw [List.length_cons, List.length_drop]
          omega
        rcases gHome_cases hq with ⟨e1, e2⟩ | ⟨e1, e2, e3, e4, e5⟩
        · subst e2
          obtain ⟨i, i1, -, i3⟩ := gFindN_lt e1
          refine ⟨p1, hlen, p3, fun c' hc' => ?_⟩
          rcases List.mem_cons.mp hc' with e | e
          · rw [e, ← i3]; exact hB _ p1 i i1
          · exact p4 c' (List.mem_of_mem_drop e)
        · subst e4 e5
          refine ⟨hA x1 (row j) l r p1 e1 e3 hl hr har, hlen, Nat.le_succ_of_le p3, fun c' hc' => ?_⟩
          show c' < gC x1.1 + 1
          rcases List.mem_cons.mp hc' with e | e
          · omega
          · have := p4 c' (List.mem_of_mem_drop e); omega
    have top : ∀ q, q < stk.length → stk.getD q 0 + 1 ≤ gC x1.1 := by
      intro q hq
      have e : stk.getD q 0 = stk[q] := by simp [List.getD, hq]
      rw [e]
      exact p4 _ (List.getElem_mem hq)
    by_cases hv : et_isv (row j)
    · rw [gPush_v hv] at h2
      cases h2
      have e0 : pw (row j) = 0 := pw_0 (by rw [et_pp, if_pos hv])
      refine ⟨p1, by rw [List.length_cons]; omega, p3, fun c hc => ?_⟩
      rcases List.mem_cons.mp hc with e | e
      · rw [e]; exact Nat.lt_of_lt_of_le (hvs j (by omega) (by omega) hv) p3
      · exact p4 c e
    · have hpp : et_pp (row j) = et_pt (row j) := by rw [et_pp, if_neg hv]
      rcases et_pt_cases (row j) with e | e | e | e
      · rw [hpp] at w1; exact absurd e w1
      · rw [gPush_0 hv e] at h2
        exact home 0 0 0 (by rw [pw_0 (hpp.trans e)]) (Nat.zero_le _) (Nat.zero_le _) (Or.inl ⟨e, rfl, rfl⟩) h2
      · have ep := pw_1 (hpp.trans e)
        rw [gPush_1 hv e] at h2
        exact home _ 0 1 (by rw [ep]) (top 0 (by omega)) (Nat.zero_le _) (Or.inr (Or.inl ⟨e, by omega, rfl⟩)) h2
      · have ep := pw_2 (hpp.trans e)
        rw [gPush_2 hv e] at h2
        exact home _ _ 2 (by rw [ep]) (top 0 (by omega)) (top 1 (by omega)) (Or.inr (Or.inr ⟨e, by omega, by omega⟩)) h2
/-- signs and parts belong together -/
def gAr (g : gr) : Prop := ∀ n, n < gN g → (et_pt (gS g n) = 0 ∧ gL g n = 0 ∧ gR g n = 0) ∨ (et_pt (gS g n) = 1 ∧ gL g n ≠ 0 ∧ gR g n = 0) ∨ (et_pt (gS g n) = 2 ∧ gL g n ≠ 0 ∧ gR g n ≠ 0)
/-- a graph as it is between calls -/
def gG (B : Nat) (g : gr) : Prop := gOk B g ∧ gDis g ∧ gSur g ∧ gAr g
theorem gAdd_g {B : Nat} {x : gx} {s : Int32} {l r : Nat} (h : gG B x.1) (hf : gFind x.1 s l r = none) (hB : gN x.1 < B) (hl : l ≤ gC x.1) (hr : r ≤ gC x.1) (har : et_pt s = 0 ∧ l = 0 ∧ r = 0 ∨ et_pt s = 1 ∧ l ≠ 0 ∧ r = 0 ∨ et_pt s = 2 ∧ l ≠ 0 ∧ r ≠ 0) : gG B (gAdd x s l r).1 := by
  obtain ⟨h1, h2, h3, h4⟩ := h
  have hno := gFindN_none.mp hf
  have eN : gS (gAdd x s l r).1 (gN x.1) = s ∧ gL (gAdd x s l r).1 (gN x.1) = l ∧ gR (gAdd x s l r).1 (gN x.1) = r ∧ gH (gAdd x s l r).1 (gN x.1) = gC x.1 := ⟨gUp_s _ _ _, gUp_s _ _ _, gUp_s _ _ _, gUp_s _ _ _⟩
  have eO : ∀ n, n < gN x.1 → gS (gAdd x s l r).1 n = gS x.1 n ∧ gL (gAdd x s l r).1 n = gL x.1 n ∧ gR (gAdd x s l r).1 n = gR x.1 n ∧ gH (gAdd x s l r).1 n = gH x.1 n := fun n hn => (gAdd_le x s l r).2.2 n hn
  refine ⟨gAdd_ok h1 hl hr hB, fun n m hn hm e1 e2 e3 => ?_, fun c hc => ?_, fun n hn => ?_⟩
  · have hn' : n < gN x.1 + 1 := hn
    have hm' : m < gN x.1 + 1 := hm
    by_cases en : n = gN x.1 <;> by_cases em : m = gN x.1
    · omega
    · subst en
      obtain ⟨f1, f2, f3, -⟩ := eO m (by omega)
      rw [eN.1, f1] at e1; rw [eN.2.1, f2] at e2; rw [eN.2.2.1, f3] at e3
      exact absurd ⟨e1.symm, e2.symm, e3.symm⟩ (hno m (by omega))
    · subst em
      obtain ⟨f1, f2, f3, -⟩ := eO n (by omega)
      rw [eN.1, f1] at e1; rw [eN.2.1, f2] at e2; rw [eN.2.2.1, f3] at e3
      exact absurd ⟨e1, e2, e3⟩ (hno n (by omega))
    · obtain ⟨f1, f2, f3, -⟩ := eO n (by omega)
      obtain ⟨k1, k2, k3, -⟩ := eO m (by omega)
      exact h2 n m (by omega) (by omega) (f1.symm.trans (e1.trans k1)) (f2.symm.trans (e2.trans k2)) (f3.symm.trans (e3.trans k3))
  · have hc' : c < gC x.1 + 1 := hc
    by_cases e : c = gC x.1
    · exact ⟨gN x.1, Nat.lt_succ_self _, by rw [eN.2.2.2, e]⟩
    · obtain ⟨n, hn, hh⟩ := h3 c (by omega)
      exact ⟨n, Nat.lt_succ_of_lt hn, by rw [(eO n hn).2.2.2]; exact hh⟩
  · have hn' : n < gN x.1 + 1 := hn
    by_cases e : n = gN x.1
    · subst e
      rw [eN.1, eN.2.1, eN.2.2.1]
      exact har
    · obtain ⟨f1, f2, f3, -⟩ := eO n (by omega)
      rw [f1, f2, f3]
      exact h4 n (by omega)
/-- evaluating a term keeps a graph good -/
theorem gEval_g {gw : Bool} {lim B : Nat} {vs mm : Nat → Nat} {row : Nat → Int32} {fr to : Nat} {x x' : gx} {stk : List Nat} {k : Nat} (hB : lim ≤ B) (hw : wf mm row fr to) (hvs : ∀ i, fr ≤ i → i < to → et_isv (row i) → vs (row i - 97).toNatClampNeg < gC x.1) (h0 : gG B x.1) (hk : k ≤ to - fr) (h : gEval gw lim vs (sg row to k) x = some (stk, x')) : gG B x'.1 ∧ gC x.1 ≤ gC x'.1 ∧ ∀ c ∈ stk, c < gC x'.1 := by
  obtain ⟨a, -, b, c⟩ := gEval_ind (Pr := fun x => gG B x.1) (fun x s l r p1 p2 p3 p4 p5 p6 => gAdd_g p1 p2 (by omega) p4 p5 p6) (fun x p n hn => (p.1.2.2 n hn).1) hw hvs h0 k hk stk x' h
  exact ⟨a, b, c⟩
/-- looking up leaves the graph as it is -/
theorem gEval_look {lim : Nat} {vs : Nat → Nat} : ∀ {w : List Int32} {x x' : gx} {stk : List Nat}, gEval false lim vs w x = some (stk, x') → x' = x
  | [], x, x', stk, h => by
    rw [gEval] at h
    cases h
    rfl
  | c :: w, x, x', stk, h => by
    rw [gEval] at h
    cases hq : gEval false lim vs w x with
    | none => rw [hq] at h; cases h
    | some p =>
      rw [hq] at h
      have e : p.2 = x := gEval_look (stk := p.1) hq
      have hm : ∀ l r (g : Nat × gx → List Nat × gx), (∀ q, (g q).2 = q.2) → (gHome false lim p.2 c l r).map g = some (stk, x') → x' = x := by
        intro l r g hg hm
        cases hh : gHome false lim p.2 c l r with
        | none => rw [hh] at hm; cases hm
        | some q =>
          rw [hh] at hm
          have e2 := Option.some.inj hm
          rcases gHome_cases (c := q.1) (x' := q.2) hh with ⟨-, e3⟩ | ⟨-, e3, -⟩
          · have := hg q
            rw [e2] at this
            exact this.trans (e3.trans e)
          · cases e3
      simp only [gPush] at h
      split at h
      · cases h; exact e
      · split at h
        · exact hm _ _ _ (fun _ => rfl) h
        · split at h
          · exact hm _ _ _ (fun _ => rfl) h
          · exact hm _ _ _ (fun _ => rfl) h
/-- names stay what they are; a new class is named by its number -/
theorem gEval_nm {gw : Bool} {lim : Nat} {vs mm : Nat → Nat} {row : Nat → Int32} {fr to : Nat} {x x' : gx} {stk : List Nat} {k : Nat} (hw : wf mm row fr to) (hvs : ∀ i, fr ≤ i → i < to → et_isv (row i) → vs (row i - 97).toNatClampNeg < gC x.1) (hH : ∀ n, n < gN x.1 → gH x.1 n < gC x.1) (hk : k ≤ to - fr) (h : gEval gw lim vs (sg row to k) x = some (stk, x')) : ∀ c, (c < gC x.1 → x'.2 c = x.2 c) ∧ (gC x.1 ≤ c → c < gC x'.1 → x'.2 c = c) := by
  have hA : ∀ (y : gx) (s : Int32) (l r : Nat), ((∀ n, n < gN y.1 → gH y.1 n < gC y.1) ∧ gC x.1 ≤ gC y.1 ∧ ∀ c, (c < gC x.1 → y.2 c = x.2 c) ∧ (gC x.1 ≤ c → c < gC y.1 → y.2 c = c)) → ((∀ n, n < gN (gAdd y s l r).1 → gH (gAdd y s l r).1 n < gC (gAdd y s l r).1) ∧ gC x.1 ≤ gC (gAdd y s l r).1 ∧ ∀ c, (c < gC x.1 → (gAdd y s l r).2 c = x.2 c) ∧ (gC x.1 ≤ c → c < gC (gAdd y s l r).1 → (gAdd y s l r).2 c = c)) := by
    intro y s l r p1
    obtain ⟨q1, q2, q3⟩ := p1
    refine ⟨fun n hn => ?_, Nat.le_succ_of_le q2, fun c => ⟨fun hc => ?_, fun hc1 hc2 => ?_⟩⟩
    · have hn' : n < gN y.1 + 1 := hn
      show gUp (gH y.1) (gN y.1) (gC y.1) n < gC y.1 + 1
      by_cases e : n = gN y.1
      · rw [e, gUp_s]; omega
      · rw [gUp_n _ _ e]; have := q1 n (by omega); omega
    · show gUp y.2 (gC y.1) (gC y.1) c = x.2 c
      rw [gUp_n _ _ (by omega)]
      exact (q3 c).1 hc
    · have hc2' : c < gC y.1 + 1 := hc2
      show gUp y.2 (gC y.1) (gC y.1) c = c
      by_cases e : c = gC y.1
      · rw [e, gUp_s]
      · rw [gUp_n _ _ e]; exact (q3 c).2 hc1 (by omega)
  exact (gEval_ind (Pr := fun y => (∀ n, n < gN y.1 → gH y.1 n < gC y.1) ∧ gC x.1 ≤ gC y.1 ∧ ∀ c, (c < gC x.1 → y.2 c = x.2 c) ∧ (gC x.1 ≤ c → c < gC y.1 → y.2 c = c)) (fun y s l r p1 _ _ _ _ _ => hA y s l r p1) (fun y p n hn => p.1 n hn) hw hvs ⟨hH, Nat.le_refl _, fun c => ⟨fun _ => rfl, fun h1 h2 => absurd h2 (by omega)⟩⟩ k hk stk x' h).1.2.2
