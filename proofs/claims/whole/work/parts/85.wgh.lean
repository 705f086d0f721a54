/-! ===== passes over all nodes: cost and length ===== -/
abbrev pai : Type := Nat × Nat
def pLe (a b : pai) : Prop := a.1 < b.1 ∨ (a.1 = b.1 ∧ a.2 ≤ b.2)
def pA (w : Nat → pai) (l : Nat) : pai := match l with
  | 0 => (0, 0)
  | k + 1 => w k
def pB (g : gr) (pr : Int32 → Nat) (w : Nat → pai) (n : Nat) : pai := (pr (gS g n) + (pA w (gL g n)).1 + (pA w (gR g n)).1, 1 + (pA w (gL g n)).2 + (pA w (gR g n)).2)
def v2 (v : Nat → tri) (c : Nat) : pai := ((v c).1, (v c).2.1)
theorem pA_v2 {v : Nat → tri} {l : Nat} : pA (v2 v) l = ((cA v l).1, (cA v l).2.1) := by cases l <;> rfl
theorem pB_v2 {g : gr} {pr : Int32 → Nat} {v : Nat → tri} {n : Nat} : pB g pr (v2 v) n = ((cB g pr v n).1, (cB g pr v n).2.1) := by
  unfold pB
  rw [pA_v2, pA_v2]
  rfl
theorem pLe.refl (a : pai) : pLe a a := Or.inr ⟨rfl, Nat.le_refl _⟩
theorem pLe.trans {a b c : pai} (h : pLe a b) (h' : pLe b c) : pLe a c := by unfold pLe at *; omega
theorem pLe.anti {a b : pai} (h : pLe a b) (h' : pLe b a) : a = b := by unfold pLe at *; exact Prod.ext (by omega) (by omega)
theorem tLe.p {a b : tri} (h : tLe a b) : pLe (a.1, a.2.1) (b.1, b.2.1) := by
  unfold tLe at h
  show a.1 < b.1 ∨ (a.1 = b.1 ∧ a.2.1 ≤ b.2.1)
  omega
theorem pA_le {v w : Nat → pai} {C l : Nat} (h : ∀ c, c < C → pLe (v c) (w c)) (hl : l ≤ C) : pLe (pA v l) (pA w l) := by
  cases l with
  | zero => exact pLe.refl _
  | succ k => exact h k hl
theorem pB_le {B : Nat} {g : gr} {pr : Int32 → Nat} {v w : Nat → pai} (ok : gOk B g) (h : ∀ c, c < gC g → pLe (v c) (w c)) {n : Nat} (hn : n < gN g) : pLe (pB g pr v n) (pB g pr w n) := by
  obtain ⟨-, o2, o3⟩ := ok.2.2 n hn
  have a := pA_le h o2
  have b := pA_le h o3
  unfold pLe at a b
  show pr _ + _ + _ < pr _ + _ + _ ∨ (pr _ + _ + _ = pr _ + _ + _ ∧ 1 + _ + _ ≤ 1 + _ + _)
  omega
def wgI (g : gr) (pr : Int32 → Nat) (v : Nat → tri) (p i : Nat) (b : Bool) (w : Nat → pai) : Prop :=
  (∀ c, c < gC g → pLe (v2 v c) (w c)) ∧ (∀ c, c < gC g → ((w c).1 ≤ kM ∨ w c = (kM + 1, 0)) ∧ (w c).2 ≤ (w c).1) ∧ (∀ c, c < gC g → (v c).1 ≤ kM → rk v (gC g) c < p → w c = v2 v c) ∧
  (∀ n, n < i → (v (gH g n)).1 ≤ kM → rk v (gC g) (gH g n) < p + 1 → v (gH g n) = cB g pr v n → w (gH g n) = v2 v (gH g n)) ∧ (b = false → ∀ n, n < i → (pB g pr w n).1 ≤ kM → pLe (w (gH g n)) (pB g pr w n))
theorem wg_0 {g : gr} {pr : Int32 → Nat} {v : Nat → tri} (hv : bst g pr v) (hb : Bool) : wgI g pr v 0 0 hb (fun _ => (kM + 1, 0)) := by
  refine ⟨fun c hc => ?_, fun c hc => ⟨Or.inr rfl, Nat.zero_le _⟩, fun c _ _ h => absurd h (Nat.not_lt_zero _), fun n h => absurd h (Nat.not_lt_zero _), fun _ n h => absurd h (Nat.not_lt_zero _)⟩
  rcases hv.2.2 c hc with h | h
  · exact Or.inl (by show (v c).1 < kM + 1; omega)
  · rw [v2, h]; exact pLe.refl _
theorem wg_opt {B : Nat} {g : gr} {pr : Int32 → Nat} {v : Nat → tri} {p i : Nat} {b : Bool} {w : Nat → pai} (ok : gOk B g) (hp : ∀ n, n < gN g → 1 ≤ pr (gS g n)) (I : wgI g pr v p i b w) (hi : i < gN g) (h1 : (v (gH g i)).1 ≤ kM) (h2 : rk v (gC g) (gH g i) < p + 1) (h3 : v (gH g i) = cB g pr v i) : pB g pr w i = v2 v (gH g i) := by
  obtain ⟨-, o2, o3⟩ := ok.2.2 i hi
  have hpi := hp i hi
  have e : (cB g pr v i).1 = pr (gS g i) + (cA v (gL g i)).1 + (cA v (gR g i)).1 := rfl
  have part : ∀ l, l ≤ gC g → (cA v l).1 < (v (gH g i)).1 → pA w l = pA (v2 v) l := by
    intro l hl hlt
    cases l with
    | zero => rfl
    | succ q =>
      have hlt : (v q).1 < (v (gH g i)).1 := hlt
      exact I.2.2.1 q hl (by omega) (by have := rk_part (v := v) (C := gC g) (c := gH g i) hl hlt; omega)
  rw [v2, h3, show ((cB g pr v i).1, (cB g pr v i).2.1) = pB g pr (v2 v) i from pB_v2.symm]
  rw [h3] at part
  unfold pB
  rw [part _ o2 (by omega), part _ o3 (by omega)]
theorem wg_keep {B : Nat} {g : gr} {pr : Int32 → Nat} {v : Nat → tri} {p i : Nat} {b : Bool} {w : Nat → pai} (ok : gOk B g) (hp : ∀ n, n < gN g → 1 ≤ pr (gS g n)) (I : wgI g pr v p i b w) (hi : i < gN g) (h : (pB g pr w i).1 ≤ kM → pLe (w (gH g i)) (pB g pr w i)) : wgI g pr v p (i + 1) b w := by
  obtain ⟨i1, i2, i3, i4, i5⟩ := id I
  refine ⟨i1, i2, i3, fun n hn h1 h2 h3 => ?_, fun hb n hn hk => ?_⟩
  · by_cases e : n = i
    · subst e
      have e2 := wg_opt ok hp I hi h1 h2 h3
      have := h (by rw [e2]; exact h1)
      rw [e2] at this
      exact this.anti (i1 _ (ok.2.2 n hi).1)
    · exact i4 n (by omega) h1 h2 h3
  · by_cases e : n = i
    · subst e; exact h hk
    · exact i5 hb n (by omega) hk
theorem wg_put {B : Nat} {g : gr} {pr : Int32 → Nat} {v : Nat → tri} {p i : Nat} {b : Bool} {w : Nat → pai} (ok : gOk B g) (hp : ∀ n, n < gN g → 1 ≤ pr (gS g n)) (hv : bst g pr v) (I : wgI g pr v p i b w) (hi : i < gN g) (hk : (pB g pr w i).1 ≤ kM) (hl : ∀ l, l ≤ gC g → (pA w l).2 ≤ (pA w l).1) (hn : ¬ pLe (w (gH g i)) (pB g pr w i)) : wgI g pr v p (i + 1) true (gUp w (gH g i) (pB g pr w i)) := by
  obtain ⟨i1, i2, i3, i4, i5⟩ := id I
  obtain ⟨o1, o2, o3⟩ := ok.2.2 i hi
  have le : pLe (v2 v (gH g i)) (pB g pr w i) := by
    have h1 : pLe (pB g pr (v2 v) i) (pB g pr w i) := pB_le ok i1 hi
    have h2 : (pB g pr (v2 v) i).1 ≤ kM := by unfold pLe at h1; omega
    rw [pB_v2] at h1 h2
    exact (hv.1 i hi h2).p.trans h1
  have lt : pLe (pB g pr w i) (w (gH g i)) := by unfold pLe at hn ⊢; omega
  refine ⟨fun c hc => ?_, fun c hc => ?_, fun c hc h1 h2 => ?_, fun n hn h1 h2 h3 => ?_, fun hb => by cases hb⟩
  · by_cases e : c = gH g i
    · rw [e, gUp_s]; exact le
    · rw [gUp_n _ _ e]; exact i1 c hc
  · by_cases e : c = gH g i
    · rw [e, gUp_s]
      refine ⟨Or.inl hk, ?_⟩
      have a := hl _ o2
      have b := hl _ o3
      have := hp i hi
      show 1 + _ + _ ≤ pr _ + _ + _
      omega
    · rw [gUp_n _ _ e]; exact i2 c hc
  · by_cases e : c = gH g i
    · rw [e, gUp_s]
      rw [e] at h1 h2
      have := i3 _ o1 h1 h2
      rw [this] at lt
      exact lt.anti le
    · rw [gUp_n _ _ e]; exact i3 c hc h1 h2
  · by_cases e2 : gH g n = gH g i
    · rw [e2, gUp_s]
      by_cases e : n = i
      · subst e
        exact wg_opt ok hp I hi h1 h2 h3
      · have := i4 n (by omega) h1 h2 h3
        rw [e2] at this
        rw [this] at lt
        exact lt.anti le
    · by_cases e : n = i
      · subst e; exact absurd rfl e2
      · rw [gUp_n _ _ e2]; exact i4 n (by omega) h1 h2 h3
theorem wg_next {B : Nat} {g : gr} {pr : Int32 → Nat} {v : Nat → tri} {p : Nat} {b : Bool} {w : Nat → pai} (hv : bst g pr v) (_ok : gOk B g) (I : wgI g pr v p (gN g) b w) : wgI g pr v (p + 1) 0 false w := by
  obtain ⟨i1, i2, i3, i4, i5⟩ := I
  refine ⟨i1, i2, fun c hc h1 h2 => ?_, fun n h => absurd h (Nat.not_lt_zero _), fun _ n h => absurd h (Nat.not_lt_zero _)⟩
  obtain ⟨n, n1, n2, n3⟩ := hv.2.1 c hc h1
  have := i4 n n1 (by rw [n2]; exact h1) (by rw [n2]; exact h2) (by rw [n2]; exact n3)
  rw [n2] at this
  exact this
theorem wg_over {g : gr} {pr : Int32 → Nat} {v : Nat → tri} {w : Nat → pai} (hv : bst g pr v) (i1 : ∀ c, c < gC g → pLe (v2 v c) (w c)) (i2 : ∀ c, c < gC g → ((w c).1 ≤ kM ∨ w c = (kM + 1, 0)) ∧ (w c).2 ≤ (w c).1) (h : ∀ c, c < gC g → (v c).1 ≤ kM → w c = v2 v c) : ∀ c, c < gC g → w c = v2 v c := fun c hc => by
  rcases hv.2.2 c hc with z | z
  · exact h c hc z
  · have a := i1 c hc
    have e : v2 v c = (kM + 1, 0) := by rw [v2, z]
    rw [e] at a ⊢
    rcases (i2 c hc).1 with y | y
    · unfold pLe at a
      have a : kM + 1 < (w c).1 ∨ (kM + 1 = (w c).1 ∧ 0 ≤ (w c).2) := a
      omega
    · exact y
theorem wg_end2 {g : gr} {pr : Int32 → Nat} {v : Nat → tri} {i : Nat} {b : Bool} {w : Nat → pai} (hv : bst g pr v) (I : wgI g pr v (gC g) i b w) : ∀ c, c < gC g → w c = v2 v c :=
  wg_over hv I.1 I.2.1 (fun c hc h => I.2.2.1 c hc h (rk_lt hc))
theorem wg_end1 {B : Nat} {g : gr} {pr : Int32 → Nat} {v : Nat → tri} {p : Nat} {w : Nat → pai} (ok : gOk B g) (hp : ∀ n, n < gN g → 1 ≤ pr (gS g n)) (hv : bst g pr v) (I : wgI g pr v p (gN g) false w) : ∀ c, c < gC g → w c = v2 v c := by
  obtain ⟨i1, i2, i3, i4, i5⟩ := I
  have fix := i5 rfl
  have key : ∀ k c, c < gC g → (v c).1 ≤ k → (v c).1 ≤ kM → pLe (w c) (v2 v c) := by
    intro k
    induction k with
    | zero =>
      intro c hc h1 h2
      obtain ⟨n, n1, n2, n3⟩ := hv.2.1 c hc h2
      have := hp n n1
      have e : (cB g pr v n).1 = pr (gS g n) + (cA v (gL g n)).1 + (cA v (gR g n)).1 := rfl
      rw [n3] at h1
      omega
    | succ k ih =>
      intro c hc h1 h2
      obtain ⟨n, n1, n2, n3⟩ := hv.2.1 c hc h2
      have p1 := hp n n1
      have e : (cB g pr v n).1 = pr (gS g n) + (cA v (gL g n)).1 + (cA v (gR g n)).1 := rfl
      obtain ⟨-, o2, o3⟩ := ok.2.2 n n1
      have part : ∀ l, l ≤ gC g → (cA v l).1 < (v c).1 → pLe (pA w l) (pA (v2 v) l) := by
        intro l hl hlt
        cases l with
        | zero => exact pLe.refl _
        | succ q =>
          have hlt : (v q).1 < (v c).1 := hlt
          exact ih q hl (by omega) (by omega)
      have a := part _ o2 (by rw [n3]; omega)
      have b := part _ o3 (by rw [n3]; omega)
      have le : pLe (pB g pr w n) (pB g pr (v2 v) n) := by
        unfold pLe at a b
        show pr _ + _ + _ < pr _ + _ + _ ∨ (pr _ + _ + _ = pr _ + _ + _ ∧ 1 + _ + _ ≤ 1 + _ + _)
        omega
      have ev : v2 v c = pB g pr (v2 v) n := by rw [pB_v2, v2, n3]
      rw [ev]
      have h2' : (pB g pr (v2 v) n).1 ≤ kM := by rw [← ev]; exact h2
      have := fix n n1 (by unfold pLe at le; omega)
      rw [n2] at this
      exact this.trans le
  exact wg_over hv i1 i2 (fun c hc h => (key _ c hc (Nat.le_refl _) h).anti (i1 c hc))
