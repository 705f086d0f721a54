/-! ===== congruence, quotients, and what merging twins leaves ===== -/
def gEqv (R : Nat → Nat → Prop) : Prop := (∀ a, R a a) ∧ (∀ a b, R a b → R b a) ∧ ∀ a b c, R a b → R b c → R a c
def upR (R : Nat → Nat → Prop) (l l' : Nat) : Prop := match l, l' with
  | 0, 0 => True
  | k + 1, k' + 1 => R k k'
  | _, _ => False
def gCongr (g : gr) (R : Nat → Nat → Prop) : Prop := ∀ n m, n < gN g → m < gN g → gS g n = gS g m → upR R (gL g n) (gL g m) → upR R (gR g n) (gR g m) → R (gH g n) (gH g m)
/-- the least congruence that has all pairs of P -/
def gCong (g : gr) (P : Nat → Nat → Prop) (a b : Nat) : Prop := ∀ R : Nat → Nat → Prop, gEqv R → (∀ a b, P a b → R a b) → gCongr g R → R a b
theorem gCong.eqv (g : gr) (P : Nat → Nat → Prop) : gEqv (gCong g P) :=
  ⟨fun a R h _ _ => h.1 a, fun a b h R h1 h2 h3 => h1.2.1 a b (h R h1 h2 h3), fun a b c h h' R h1 h2 h3 => h1.2.2 a b c (h R h1 h2 h3) (h' R h1 h2 h3)⟩
theorem gCong.sub (g : gr) (P : Nat → Nat → Prop) {a b : Nat} (h : P a b) : gCong g P a b := fun _ _ h2 _ => h2 a b h
theorem upR_mono {R R' : Nat → Nat → Prop} (h : ∀ a b, R a b → R' a b) {l l' : Nat} (hl : upR R l l') : upR R' l l' := by
  cases l <;> cases l' <;> first | exact trivial | exact hl.elim | exact h _ _ hl
theorem gCong.congr (g : gr) (P : Nat → Nat → Prop) : gCongr g (gCong g P) := fun n m hn hm hs hl hr R h1 h2 h3 =>
  h3 n m hn hm hs (upR_mono (fun _ _ h => h R h1 h2 h3) hl) (upR_mono (fun _ _ h => h R h1 h2 h3) hr)
theorem upR_of_up {q : Nat → Nat} {R : Nat → Nat → Prop} (h : ∀ a b, q a = q b → R a b) {l l' : Nat} (e : up q l = up q l') : upR R l l' := by
  cases l <;> cases l'
  · trivial
  · simp [up] at e
  · simp [up] at e
  · exact h _ _ (by simpa [up] using e)
/-- the same, where the classes are below a bound -/
theorem upR_of_upB {q : Nat → Nat} {R : Nat → Nat → Prop} {C : Nat} (h : ∀ a b, a < C → b < C → q a = q b → R a b) {l l' : Nat} (hl : l ≤ C) (hl' : l' ≤ C) (e : up q l = up q l') : upR R l l' := by
  cases l <;> cases l'
  · trivial
  · simp [up] at e
  · simp [up] at e
  · exact h _ _ (by omega) (by omega) (by simpa [up] using e)
/-- no two nodes are the same -/
def gDis (g : gr) : Prop := ∀ n m, n < gN g → m < gN g → gS g n = gS g m → gL g n = gL g m → gR g n = gR g m → n = m
/-- each class has a node -/
def gSur (g : gr) : Prop := ∀ c, c < gC g → ∃ n, n < gN g ∧ gH g n = c
/-- a node of one graph is a node of another under a map of classes -/
def gIm (q : Nat → Nat) (g : gr) (n : Nat) (g' : gr) (n' : Nat) : Prop := gS g' n' = gS g n ∧ gL g' n' = up q (gL g n) ∧ gR g' n' = up q (gR g n) ∧ gH g' n' = q (gH g n)
/-- the second graph is the first under the least congruence that has all pairs of P -/
def gQuot (g : gr) (P : Nat → Nat → Prop) (g' : gr) : Prop := ∃ q : Nat → Nat, (∀ c, c < gC g → q c < gC g') ∧ (∀ a b, a < gC g → b < gC g → (q a = q b ↔ gCong g P a b)) ∧ (∀ n, n < gN g → ∃ n', n' < gN g' ∧ gIm q g n g' n') ∧ (∀ n', n' < gN g' → ∃ n, n < gN g ∧ gIm q g n g' n') ∧ gDis g' ∧ gSur g' ∧ gC g' ≤ gN g' ∧ gN g' ≤ gN g
/-- names are names of names -/
def nId (x : gx) : Prop := ∀ c, c < gC x.1 → x.2 (x.2 c) = x.2 c
theorem gJoin_ok {x : gx} {a b : Nat} (nok : nOk x) (nid : nId x) (ha : a < gC x.1) (hb : b < gC x.1) : nOk (gJoin x a b) ∧ nId (gJoin x a b) := by
  refine ⟨fun c hc => ?_, fun c hc => ?_⟩
  · show (if x.2 c = x.2 b then x.2 a else x.2 c) < gC x.1
    split
    · exact nok a ha
    · exact nok c hc
  · have hc' : c < gC x.1 := hc
    show (if x.2 (if x.2 c = x.2 b then x.2 a else x.2 c) = x.2 b then x.2 a else x.2 (if x.2 c = x.2 b then x.2 a else x.2 c)) = (if x.2 c = x.2 b then x.2 a else x.2 c)
    by_cases e : x.2 c = x.2 b
    · rw [if_pos e, nid a ha]
      split <;> rfl
    · rw [if_neg e, nid c hc', if_neg e]
theorem gJoin_sub {x : gx} {a b c c' : Nat} (h : x.2 c = x.2 c') : (gJoin x a b).2 c = (gJoin x a b).2 c' := by
  show (if x.2 c = x.2 b then x.2 a else x.2 c) = (if x.2 c' = x.2 b then x.2 a else x.2 c')
  rw [h]
theorem gJoin_eq {x : gx} {a b : Nat} : (gJoin x a b).2 a = (gJoin x a b).2 b := by
  show (if x.2 a = x.2 b then x.2 a else x.2 a) = (if x.2 b = x.2 b then x.2 a else x.2 b)
  rw [if_pos rfl]
  split <;> rfl
theorem gJoin_snd {x : gx} {a b C : Nat} {R : Nat → Nat → Prop} (hR : gEqv R) (hx : ∀ c c', c < C → c' < C → x.2 c = x.2 c' → R c c') (hab : R a b) (ha : a < C) (hb : b < C) : ∀ c c', c < C → c' < C → (gJoin x a b).2 c = (gJoin x a b).2 c' → R c c' := by
  intro c c' hc hc' h
  have h2 : (if x.2 c = x.2 b then x.2 a else x.2 c) = (if x.2 c' = x.2 b then x.2 a else x.2 c') := h
  by_cases e : x.2 c = x.2 b <;> by_cases e' : x.2 c' = x.2 b
  · exact hx c c' hc hc' (e.trans e'.symm)
  · rw [if_pos e, if_neg e'] at h2
    exact hR.2.2 _ _ _ (hx c b hc hb e) (hR.2.2 _ _ _ (hR.2.1 _ _ hab) (hx a c' ha hc' h2))
  · rw [if_neg e, if_pos e'] at h2
    exact hR.2.2 _ _ _ (hx c a hc ha h2) (hR.2.2 _ _ _ hab (hx b c' hb hc' e'.symm))
  · rw [if_neg e, if_neg e'] at h2
    exact hx c c' hc hc' h2
/-- two nodes have the same sign and parts -/
def gTw (g : gr) (n : Nat) (g' : gr) (m : Nat) : Prop := gS g n = gS g' m ∧ gL g n = gL g' m ∧ gR g n = gR g' m
def gPut (y : gx) (k i : Nat) : gx := ((gUp (gS y.1) k (gS y.1 i), gUp (gL y.1) k (gL y.1 i), gUp (gR y.1) k (gR y.1 i), gUp (gH y.1) k (gH y.1 i), gN y.1, gC y.1), y.2)
/-- i nodes of x are through, k of them are kept, in y -/
def mtI (x : gx) (i k : Nat) (y : gx) : Prop :=
  gN y.1 = gN x.1 ∧ gC y.1 = gC x.1 ∧ k ≤ i ∧ (∀ j, i ≤ j → j < gN x.1 → gTw y.1 j x.1 j ∧ gH y.1 j = gH x.1 j) ∧ (∀ j, j < k → ∃ n, n < i ∧ gTw y.1 j x.1 n ∧ gH y.1 j = gH x.1 n) ∧
  (∀ n, n < i → ∃ j, j < k ∧ gTw y.1 j x.1 n ∧ y.2 (gH y.1 j) = y.2 (gH x.1 n)) ∧ (∀ a b, a < k → b < k → gTw y.1 a y.1 b → a = b) ∧ nOk y ∧ nId y ∧
  (∀ a b, a < gC x.1 → b < gC x.1 → x.2 a = x.2 b → y.2 a = y.2 b) ∧
  (∀ R : Nat → Nat → Prop, gEqv R → (∀ a b, a < gC x.1 → b < gC x.1 → x.2 a = x.2 b → R a b) → (∀ n m, n < gN x.1 → m < gN x.1 → gTw x.1 n x.1 m → R (gH x.1 n) (gH x.1 m)) → ∀ a b, a < gC x.1 → b < gC x.1 → y.2 a = y.2 b → R a b) ∧
  (k = i → ∀ c, y.2 c = x.2 c)
theorem mt_0 {x : gx} (nok : nOk x) (nid : nId x) : mtI x 0 0 x :=
  ⟨rfl, rfl, Nat.le_refl _, fun _ _ _ => ⟨⟨rfl, rfl, rfl⟩, rfl⟩, fun _ h => absurd h (Nat.not_lt_zero _), fun _ h => absurd h (Nat.not_lt_zero _), fun _ _ h => absurd h (Nat.not_lt_zero _), nok, nid, fun _ _ _ _ h => h, fun _ _ h _ a b ha hb e => h a b ha hb e, fun _ _ => rfl⟩
theorem gTw.symm {g g' : gr} {n m : Nat} (h : gTw g n g' m) : gTw g' m g n := ⟨h.1.symm, h.2.1.symm, h.2.2.symm⟩
theorem gTw.trans {g g' g'' : gr} {n m k : Nat} (h : gTw g n g' m) (h' : gTw g' m g'' k) : gTw g n g'' k := ⟨h.1.trans h'.1, h.2.1.trans h'.2.1, h.2.2.trans h'.2.2⟩
theorem gPut_s (y : gx) (k i : Nat) : gTw (gPut y k i).1 k y.1 i ∧ gH (gPut y k i).1 k = gH y.1 i := ⟨⟨gUp_s _ _ _, gUp_s _ _ _, gUp_s _ _ _⟩, gUp_s _ _ _⟩
theorem gPut_n (y : gx) {k i j : Nat} (h : j ≠ k) : gTw (gPut y k i).1 j y.1 j ∧ gH (gPut y k i).1 j = gH y.1 j := ⟨⟨gUp_n _ _ h, gUp_n _ _ h, gUp_n _ _ h⟩, gUp_n _ _ h⟩
theorem mt_put {x y : gx} {i k : Nat} (I : mtI x i k y) (hi : i < gN x.1) (hno : ∀ j, j < k → ¬ gTw y.1 j y.1 i) : mtI x (i + 1) (k + 1) (gPut y k i) := by
  obtain ⟨i1, i2, i3, i4, i5, i6, i7, i8, i9, i10, i11, i12⟩ := I
  obtain ⟨t1, t2⟩ := i4 i (Nat.le_refl _) hi
  obtain ⟨s1, s2⟩ := gPut_s y k i
  refine ⟨i1, i2, by omega, fun j h1 h2 => ?_, fun j hj => ?_, fun n hn => ?_, fun a b ha hb hab => ?_, i8, i9, i10, i11, fun e => i12 (by omega)⟩
  · obtain ⟨n1, n2⟩ := gPut_n y (k := k) (i := i) (show j ≠ k by omega)
    obtain ⟨m1, m2⟩ := i4 j (by omega) h2
    exact ⟨n1.trans m1, n2.trans m2⟩
  · by_cases e : j = k
    · subst e
      exact ⟨i, by omega, s1.trans t1, s2.trans t2⟩
    · obtain ⟨n, h1, h2, h3⟩ := i5 j (by omega)
      obtain ⟨n1, n2⟩ := gPut_n y (k := k) (i := i) e
      exact ⟨n, by omega, n1.trans h2, n2.trans h3⟩
  · by_cases e : n = i
    · subst e
      exact ⟨k, by omega, s1.trans t1, by show y.2 _ = y.2 _; rw [s2, t2]⟩
    · obtain ⟨j, h1, h2, h3⟩ := i6 n (by omega)
      obtain ⟨n1, n2⟩ := gPut_n y (k := k) (i := i) (show j ≠ k by omega)
      exact ⟨j, by omega, n1.trans h2, by show y.2 _ = y.2 _; rw [n2]; exact h3⟩
  · by_cases ea : a = k <;> by_cases eb : b = k
    · rw [ea, eb]
    · subst ea
      exact absurd (((gPut_n y eb).1.symm.trans hab.symm).trans s1) (hno b (by omega))
    · subst eb
      exact absurd (((gPut_n y ea).1.symm.trans hab).trans s1) (hno a (by omega))
    · exact i7 a b (by omega) (by omega) (((gPut_n y ea).1.symm.trans hab).trans (gPut_n y eb).1)
theorem mt_join {x y : gx} {i k t : Nat} (ok : gBd 40 x.1) (I : mtI x i k y) (hi : i < gN x.1) (ht : t < k) (hm : gTw y.1 t y.1 i) : mtI x (i + 1) k (gJoin y (gH y.1 t) (gH y.1 i)) := by
  obtain ⟨i1, i2, i3, i4, i5, i6, i7, i8, i9, i10, i11, i12⟩ := I
  obtain ⟨t1, t2⟩ := i4 i (Nat.le_refl _) hi
  obtain ⟨n0, u1, u2, u3⟩ := i5 t ht
  have ha : gH y.1 t < gC x.1 := by rw [u3]; exact (ok.2.2 n0 (by omega)).1
  have hb : gH y.1 i < gC x.1 := by rw [t2]; exact (ok.2.2 i hi).1
  obtain ⟨j1, j2⟩ := gJoin_ok i8 i9 (by rw [i2]; exact ha) (by rw [i2]; exact hb)
  refine ⟨i1, i2, by omega, fun j h1 h2 => i4 j (by omega) h2, fun j hj => ?_, fun n hn => ?_, i7, j1, j2, fun a b h1 h2 h3 => gJoin_sub (i10 a b h1 h2 h3), fun R h1 h2 h3 => ?_, fun e => absurd e (by omega)⟩
  · obtain ⟨n, h1, h2⟩ := i5 j hj
    exact ⟨n, by omega, h2⟩
  · by_cases e : n = i
    · subst e
      refine ⟨t, ht, hm.trans t1, ?_⟩
      show (gJoin y (gH y.1 t) (gH y.1 n)).2 (gH y.1 t) = (gJoin y (gH y.1 t) (gH y.1 n)).2 (gH x.1 n)
      rw [← t2]
      exact gJoin_eq
    · obtain ⟨j, h1, h2, h3⟩ := i6 n (by omega)
      exact ⟨j, h1, h2, gJoin_sub h3⟩
  · refine gJoin_snd h1 (i11 R h1 h2 h3) ?_ ha hb
    rw [u3, t2]
    exact h3 n0 i (by omega) hi ((u2.symm.trans hm).trans t1)
