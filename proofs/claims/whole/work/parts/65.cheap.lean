/-! ===== cost, length and text of the best terms, as three numbers ===== -/
abbrev tri : Type := Nat × Nat × Nat
abbrev kM : Nat := 4611686018427387904
def tLe (a b : tri) : Prop := a.1 < b.1 ∨ (a.1 = b.1 ∧ (a.2.1 < b.2.1 ∨ (a.2.1 = b.2.1 ∧ a.2.2 ≤ b.2.2)))
theorem tLe.refl (a : tri) : tLe a a := Or.inr ⟨rfl, Or.inr ⟨rfl, Nat.le_refl _⟩⟩
theorem tLe.trans {a b c : tri} (h : tLe a b) (h' : tLe b c) : tLe a c := by
  unfold tLe at *
  omega
theorem tLe.anti {a b : tri} (h : tLe a b) (h' : tLe b a) : a = b := by
  unfold tLe at *
  refine Prod.ext (by omega) (Prod.ext (by omega) (by omega))
theorem tLe.tot (a b : tri) : tLe a b ∨ (tLe b a ∧ ¬ tLe a b) := by
  unfold tLe
  omega
def comb (p s : Nat) (a b : tri) : tri := (p + a.1 + b.1, 1 + a.2.1 + b.2.1, if 1 + a.2.1 + b.2.1 ≤ 60 then s * 128 ^ (a.2.1 + b.2.1) + a.2.2 * 128 ^ b.2.1 + b.2.2 else 0)
theorem comb_mono {p s : Nat} {a a' b b' : tri} (h : tLe a a') (h' : tLe b b') : tLe (comb p s a b) (comb p s a' b') := by
  unfold tLe at h h'
  unfold tLe comb
  by_cases e : a.1 = a'.1 ∧ b.1 = b'.1
  · refine Or.inr ⟨by show p + a.1 + b.1 = p + a'.1 + b'.1; omega, ?_⟩
    by_cases e2 : a.2.1 = a'.2.1 ∧ b.2.1 = b'.2.1
    · refine Or.inr ⟨by show 1 + a.2.1 + b.2.1 = 1 + a'.2.1 + b'.2.1; omega, ?_⟩
      have h3 : a.2.2 ≤ a'.2.2 := by omega
      have h4 : b.2.2 ≤ b'.2.2 := by omega
      show (if 1 + a.2.1 + b.2.1 ≤ 60 then s * 128 ^ (a.2.1 + b.2.1) + a.2.2 * 128 ^ b.2.1 + b.2.2 else 0) ≤ (if 1 + a'.2.1 + b'.2.1 ≤ 60 then s * 128 ^ (a'.2.1 + b'.2.1) + a'.2.2 * 128 ^ b'.2.1 + b'.2.2 else 0)
      rw [e2.1, e2.2]
      split
      · have := Nat.mul_le_mul_right (128 ^ b'.2.1) h3
        omega
      · exact Nat.le_refl _
    · refine Or.inl ?_
      show 1 + a.2.1 + b.2.1 < 1 + a'.2.1 + b'.2.1
      omega
  · refine Or.inl ?_
    show p + a.1 + b.1 < p + a'.1 + b'.1
    omega
/-- the value of a part -/
def cA (v : Nat → tri) (l : Nat) : tri := match l with
  | 0 => (0, 0, 0)
  | k + 1 => v k
/-- the value of a node, through its parts' classes -/
def cB (g : gr) (pr : Int32 → Nat) (v : Nat → tri) (n : Nat) : tri := comb (pr (gS g n)) (gS g n).toNatClampNeg (cA v (gL g n)) (cA v (gR g n))
def bst (g : gr) (pr : Int32 → Nat) (v : Nat → tri) : Prop := (∀ n, n < gN g → (cB g pr v n).1 ≤ kM → tLe (v (gH g n)) (cB g pr v n)) ∧ (∀ c, c < gC g → (v c).1 ≤ kM → ∃ n, n < gN g ∧ gH g n = c ∧ v c = cB g pr v n) ∧ ∀ c, c < gC g → (v c).1 ≤ kM ∨ v c = (kM + 1, 0, 0)
theorem cA_le {v w : Nat → tri} {C l : Nat} (h : ∀ c, c < C → tLe (v c) (w c)) (hl : l ≤ C) : tLe (cA v l) (cA w l) := by
  cases l with
  | zero => exact tLe.refl _
  | succ k => exact h k hl
theorem cB_le {B : Nat} {g : gr} {pr : Int32 → Nat} {v w : Nat → tri} (ok : gOk B g) (h : ∀ c, c < gC g → tLe (v c) (w c)) {n : Nat} (hn : n < gN g) : tLe (cB g pr v n) (cB g pr w n) := by
  obtain ⟨-, o2, o3⟩ := ok.2.2 n hn
  exact comb_mono (cA_le h o2) (cA_le h o3)
theorem tLe.c {a b : tri} (h : tLe a b) : a.1 ≤ b.1 := by unfold tLe at h; omega
/-- what lies above the best and can't be bettered is the best -/
theorem bst_fix {B : Nat} {g : gr} {pr : Int32 → Nat} {v w : Nat → tri} (ok : gOk B g) (hp : ∀ n, n < gN g → 1 ≤ pr (gS g n)) (hv : bst g pr v) (ge : ∀ c, c < gC g → tLe (v c) (w c)) (hw : ∀ n, n < gN g → (cB g pr w n).1 ≤ kM → tLe (w (gH g n)) (cB g pr w n)) (ow : ∀ c, c < gC g → (w c).1 ≤ kM ∨ w c = (kM + 1, 0, 0)) : ∀ c, c < gC g → w c = v c := by
  have key : ∀ k c, c < gC g → (v c).1 ≤ k → (v c).1 ≤ kM → tLe (w c) (v c) := by
    intro k
    induction k with
    | zero =>
      intro c hc h1 h2
      obtain ⟨n, n1, n2, n3⟩ := hv.2.1 c hc h2
      have := hp n n1
      have e : (cB g pr v n).1 = pr (gS g n) + (cA v (gL g n)).1 + (cA v (gR g n)).1 := rfl
      rw [n3] at h1
      omega
    | succ k ih =>
      intro c hc h1 h2
      obtain ⟨n, n1, n2, n3⟩ := hv.2.1 c hc h2
      have p1 := hp n n1
      have e : (cB g pr v n).1 = pr (gS g n) + (cA v (gL g n)).1 + (cA v (gR g n)).1 := rfl
      obtain ⟨-, o2, o3⟩ := ok.2.2 n n1
      have part : ∀ l, l ≤ gC g → (cA v l).1 < (v c).1 → tLe (cA w l) (cA v l) := by
        intro l hl hlt
        cases l with
        | zero => exact tLe.refl _
        | succ q =>
          have hlt : (v q).1 < (v c).1 := hlt
          exact ih q hl (by omega) (by omega)
      rw [n3] at h1 h2
      have le : tLe (cB g pr w n) (cB g pr v n) := comb_mono (part _ o2 (by rw [n3]; omega)) (part _ o3 (by rw [n3]; omega))
      have := hw n n1 (Nat.le_trans le.c h2)
      rw [n2] at this
      rw [n3]
      exact this.trans le
  intro c hc
  rcases hv.2.2 c hc with h | h
  · exact (key _ c hc (Nat.le_refl _) h).anti (ge c hc)
  · have := ge c hc
    rcases ow c hc with z | z
    · have := this.c
      rw [h] at this
      have : kM + 1 ≤ (w c).1 := this
      omega
    · rw [z, h]
theorem cA_up {σ : Nat → Nat} {v v' : Nat → tri} {l : Nat} (h : ∀ k, l = k + 1 → v' (σ k) = v k) : cA v' (up σ l) = cA v l := by
  cases l with
  | zero => rfl
  | succ k => exact h k rfl
/-- the same graph: the same values -/
theorem bst_iso {B B' : Nat} {σ ρ : Nat → Nat} {g g' : gr} {pr : Int32 → Nat} {v v' : Nat → tri} (I : gIso σ ρ g g') (ok : gOk B g) (ok' : gOk B' g') (hp : ∀ n, n < gN g → 1 ≤ pr (gS g n)) (hv : bst g pr v) (hv' : bst g' pr v') : ∀ c, c < gC g → v' (σ c) = v c := by
  have key : ∀ {σ ρ : Nat → Nat} {g g' : gr} {B : Nat} {v v' : Nat → tri}, gIso σ ρ g g' → gOk B g → (∀ n, n < gN g → 1 ≤ pr (gS g n)) → bst g pr v → bst g' pr v' → ∀ k c, c < gC g → (v c).1 ≤ k → (v c).1 ≤ kM → tLe (v' (σ c)) (v c) := by
    intro σ ρ g g' B v v' I ok hp hv hv' k
    induction k with
    | zero =>
      intro c hc h1 h2
      obtain ⟨n, n1, n2, n3⟩ := hv.2.1 c hc h2
      have := hp n n1
      have e : (cB g pr v n).1 = pr (gS g n) + (cA v (gL g n)).1 + (cA v (gR g n)).1 := rfl
      rw [n3] at h1
      omega
    | succ k ih =>
      intro c hc h1 h2
      obtain ⟨n, n1, n2, n3⟩ := hv.2.1 c hc h2
      obtain ⟨n', m1, m2, m3, m4, m5⟩ := I.1.2 n n1
      have p1 := hp n n1
      have e : (cB g pr v n).1 = pr (gS g n) + (cA v (gL g n)).1 + (cA v (gR g n)).1 := rfl
      obtain ⟨-, o2, o3⟩ := ok.2.2 n n1
      have part : ∀ l, l ≤ gC g → (cA v l).1 < (v c).1 → tLe (cA v' (up σ l)) (cA v l) := by
        intro l hl hlt
        cases l with
        | zero => exact tLe.refl _
        | succ q =>
          have hlt : (v q).1 < (v c).1 := hlt
          exact ih q hl (by omega) (by omega)
      rw [n3] at h1 h2
      have le : tLe (cB g' pr v' n') (cB g pr v n) := by
        unfold cB
        rw [m2, m3, m4]
        exact comb_mono (part _ o2 (by rw [n3]; omega)) (part _ o3 (by rw [n3]; omega))
      have := hv'.1 n' m1 (Nat.le_trans le.c h2)
      rw [m5, n2] at this
      rw [n3]
      exact this.trans le
  have hp' : ∀ n, n < gN g' → 1 ≤ pr (gS g' n) := fun n hn => by
    obtain ⟨m, m1, m2, -⟩ := I.2.1.2 n hn
    rw [← m2]
    exact hp m m1
  intro c hc
  have hc' := I.1.1 c hc
  have k2 := key I.symm ok' hp' hv' hv _ (σ c) hc' (Nat.le_refl _)
  rw [I.2.2.1 c hc] at k2
  rcases hv.2.2 c hc with h | h
  · have a := key I ok hp hv hv' _ c hc (Nat.le_refl _) h
    exact a.anti (k2 (Nat.le_trans a.c h))
  · rcases hv'.2.2 (σ c) hc' with z | z
    · have := (k2 z).c
      rw [h] at this
      have : kM + 1 ≤ (v' (σ c)).1 := this
      omega
    · rw [z, h]
/-- bounds of a value -/
def tOk (a : tri) : Prop := a.1 ≤ kM + 1 ∧ a.2.1 ≤ a.1 ∧ (a.2.1 ≤ 60 → a.2.2 < 128 ^ a.2.1) ∧ (60 < a.2.1 → a.2.2 = 0)
theorem comb_ok {p s : Nat} {a b : tri} (hp : 1 ≤ p) (hs : s < 128) (ha : tOk a) (hb : tOk b) (h : (comb p s a b).1 ≤ kM) : tOk (comb p s a b) := by
  obtain ⟨a1, a2, a3, a4⟩ := ha
  obtain ⟨b1, b2, b3, b4⟩ := hb
  have h : p + a.1 + b.1 ≤ kM := h
  refine ⟨by show p + a.1 + b.1 ≤ kM + 1; omega, by show 1 + a.2.1 + b.2.1 ≤ p + a.1 + b.1; omega, fun h => ?_, fun h => ?_⟩
  · have h : 1 + a.2.1 + b.2.1 ≤ 60 := h
    show (if 1 + a.2.1 + b.2.1 ≤ 60 then s * 128 ^ (a.2.1 + b.2.1) + a.2.2 * 128 ^ b.2.1 + b.2.2 else 0) < 128 ^ (1 + a.2.1 + b.2.1)
    rw [if_pos h]
    have q1 := a3 (by omega)
    have q2 := b3 (by omega)
    have e1 : 128 ^ (1 + a.2.1 + b.2.1) = 128 * 128 ^ (a.2.1 + b.2.1) := by rw [Nat.add_assoc, Nat.pow_add]
    have e2 : 128 ^ (a.2.1 + b.2.1) = 128 ^ a.2.1 * 128 ^ b.2.1 := Nat.pow_add _ _ _
    have q3 : (a.2.2 + 1) * 128 ^ b.2.1 ≤ 128 ^ a.2.1 * 128 ^ b.2.1 := Nat.mul_le_mul_right _ q1
    have q4 : (s + 1) * 128 ^ (a.2.1 + b.2.1) ≤ 128 * 128 ^ (a.2.1 + b.2.1) := Nat.mul_le_mul_right _ hs
    rw [Nat.add_mul, Nat.one_mul] at q3 q4
    omega
  · have h : 60 < 1 + a.2.1 + b.2.1 := h
    show (if 1 + a.2.1 + b.2.1 ≤ 60 then s * 128 ^ (a.2.1 + b.2.1) + a.2.2 * 128 ^ b.2.1 + b.2.2 else 0) = 0
    rw [if_neg (by omega)]
theorem cA_ok {v : Nat → tri} {C l : Nat} (h : ∀ c, c < C → tOk (v c)) (hl : l ≤ C) : tOk (cA v l) := by
  cases l with
  | zero => exact ⟨by show 0 ≤ _; omega, Nat.le_refl _, fun _ => by show 0 < 128 ^ 0; decide, fun h => absurd (show 60 < 0 from h) (by decide)⟩
  | succ k => exact h k hl
/-- a value as one number -/
def tN (a : tri) : Nat := (a.1 * (kM + 2) + a.2.1) * 128 ^ 60 + a.2.2
theorem tOk.num {a : tri} (h : tOk a) : a.2.2 < 128 ^ 60 := by
  by_cases e : a.2.1 ≤ 60
  · exact Nat.lt_of_lt_of_le (h.2.2.1 e) (Nat.pow_le_pow_right (by decide) e)
  · rw [h.2.2.2 (by omega)]; exact Nat.pow_pos (by decide)
theorem tN_lt {a b : tri} (ha : tOk a) (hb : tOk b) (h : tLe a b) (hne : ¬ tLe b a) : tN a < tN b := by
  have n1 := ha.num
  have n2 := hb.num
  obtain ⟨a1, a2, -, -⟩ := ha
  obtain ⟨b1, b2, -, -⟩ := hb
  unfold tN
  generalize 128 ^ 60 = D at *
  unfold tLe at h hne
  by_cases e : a.1 * (kM + 2) + a.2.1 < b.1 * (kM + 2) + b.2.1
  · have := Nat.mul_le_mul_right D (show a.1 * (kM + 2) + a.2.1 + 1 ≤ b.1 * (kM + 2) + b.2.1 from e)
    rw [Nat.add_mul, Nat.one_mul] at this
    omega
  · have e1 : a.1 = b.1 := by
      rcases h with h | h
      · have := Nat.mul_le_mul_right (kM + 2) (show a.1 + 1 ≤ b.1 from h)
        rw [Nat.add_mul, Nat.one_mul] at this
        omega
      · exact h.1
    have e2 : a.2.1 = b.2.1 := by
      rw [e1] at e
      omega
    rw [e1, e2]
    omega
def sumN (v : Nat → Nat) : Nat → Nat
  | 0 => 0
  | k + 1 => sumN v k + v k
theorem sumN_same {v w : Nat → Nat} : ∀ {C : Nat}, (∀ c, c < C → w c = v c) → sumN w C = sumN v C
  | 0, _ => rfl
  | C + 1, h => by rw [sumN, sumN, sumN_same (fun c hc => h c (by omega)), h C (by omega)]
theorem sumN_lt {v w : Nat → Nat} {a : Nat} : ∀ {C : Nat}, a < C → (∀ c, c < C → c ≠ a → w c = v c) → w a < v a → sumN w C < sumN v C
  | 0, h, _, _ => absurd h (Nat.not_lt_zero _)
  | C + 1, h, he, hl => by
    rw [sumN, sumN]
    by_cases e : a = C
    · subst e
      rw [sumN_same (v := v) (fun c hc => he c (by omega) (by omega))]
      omega
    · have := sumN_lt (show a < C by omega) (fun c hc => he c (by omega)) hl
      rw [he C (by omega) (by omega)]
      omega
def tSum (v : Nat → tri) (C : Nat) : Nat := sumN (fun c => tN (v c)) C
theorem tSum_lt {v : Nat → tri} {C a : Nat} {t : tri} (ha : a < C) (h1 : tOk t) (h2 : tOk (v a)) (h3 : tLe t (v a)) (h4 : ¬ tLe (v a) t) : tSum (gUp v a t) C < tSum v C :=
  sumN_lt ha (fun c _ hne => by show tN (gUp v a t c) = tN (v c); rw [gUp_n _ _ hne]) (by show tN (gUp v a t a) < tN (v a); rw [gUp_s]; exact tN_lt h1 h2 h3 h4)
/-- there are best values -/
theorem bst_ex {B : Nat} {g : gr} {pr : Int32 → Nat} (ok : gOk B g) (hp : ∀ n, n < gN g → 1 ≤ pr (gS g n)) (hs : ∀ n, n < gN g → (gS g n).toNatClampNeg < 128) : ∃ v, bst g pr v ∧ ∀ c, c < gC g → tOk (v c) := by
  have key : ∀ k v, tSum v (gC g) ≤ k → (∀ c, c < gC g → tOk (v c)) → (∀ c, c < gC g → (v c).1 ≤ kM → ∃ n, n < gN g ∧ gH g n = c ∧ tLe (cB g pr v n) (v c)) → (∀ c, c < gC g → (v c).1 ≤ kM ∨ v c = (kM + 1, 0, 0)) → ∃ v, bst g pr v ∧ ∀ c, c < gC g → tOk (v c) := by
    intro k
    induction k with
    | zero =>
      intro v h1 h2 h3 h4
      by_cases hA : ∀ n, n < gN g → (cB g pr v n).1 ≤ kM → tLe (v (gH g n)) (cB g pr v n)
      · refine ⟨v, ⟨hA, fun c hc hk => ?_, h4⟩, h2⟩
        obtain ⟨n, n1, n2, n3⟩ := h3 c hc hk
        refine ⟨n, n1, n2, ?_⟩
        have := hA n n1 (Nat.le_trans n3.c hk)
        rw [n2] at this
        exact this.anti n3
      · exfalso
        simp only [Classical.not_forall] at hA
        obtain ⟨n, n1, n2, n3⟩ := hA
        obtain ⟨o1, o2, o3⟩ := ok.2.2 n n1
        have t1 := comb_ok (hp n n1) (hs n n1) (cA_ok h2 o2) (cA_ok h2 o3) n2
        have t2 : tLe (cB g pr v n) (v (gH g n)) := by
          rcases tLe.tot (v (gH g n)) (cB g pr v n) with z | z
          · exact absurd z n3
          · exact z.1
        have := tSum_lt (v := v) o1 t1 (h2 _ o1) t2 n3
        omega
    | succ k ih =>
      intro v h1 h2 h3 h4
      by_cases hA : ∀ n, n < gN g → (cB g pr v n).1 ≤ kM → tLe (v (gH g n)) (cB g pr v n)
      · refine ⟨v, ⟨hA, fun c hc hk => ?_, h4⟩, h2⟩
        obtain ⟨n, n1, n2, n3⟩ := h3 c hc hk
        refine ⟨n, n1, n2, ?_⟩
        have := hA n n1 (Nat.le_trans n3.c hk)
        rw [n2] at this
        exact this.anti n3
      · simp only [Classical.not_forall] at hA
        obtain ⟨n, n1, n2, n3⟩ := hA
        obtain ⟨o1, o2, o3⟩ := ok.2.2 n n1
        have t1 := comb_ok (hp n n1) (hs n n1) (cA_ok h2 o2) (cA_ok h2 o3) n2
        have t2 : tLe (cB g pr v n) (v (gH g n)) := by
          rcases tLe.tot (v (gH g n)) (cB g pr v n) with z | z
          · exact absurd z n3
          · exact z.1
        have lt := tSum_lt (v := v) o1 t1 (h2 _ o1) t2 n3
        have le : ∀ c, c < gC g → tLe (gUp v (gH g n) (cB g pr v n) c) (v c) := fun c _ => by
          by_cases e : c = gH g n
          · rw [e, gUp_s]; exact t2
          · rw [gUp_n _ _ e]; exact tLe.refl _
        refine ih (gUp v (gH g n) (cB g pr v n)) (Nat.le_of_lt_succ (Nat.lt_of_lt_of_le lt h1)) (fun c hc => ?_) (fun c hc hk => ?_) (fun c hc => ?_)
        · by_cases e : c = gH g n
          · rw [e, gUp_s]; exact t1
          · rw [gUp_n _ _ e]; exact h2 c hc
        · by_cases e : c = gH g n
          · refine ⟨n, n1, e.symm, ?_⟩
            rw [e, gUp_s]
            exact cB_le ok le n1
          · rw [gUp_n _ _ e] at hk ⊢
            obtain ⟨m, m1, m2, m3⟩ := h3 c hc hk
            exact ⟨m, m1, m2, (cB_le ok le m1).trans m3⟩
        · by_cases e : c = gH g n
          · rw [e, gUp_s]; exact Or.inl n2
          · rw [gUp_n _ _ e]; exact h4 c hc
  refine key _ (fun _ => (kM + 1, 0, 0)) (Nat.le_refl _) (fun c hc => ⟨Nat.le_refl _, Nat.zero_le _, fun _ => by show 0 < 128 ^ 0; decide, fun _ => rfl⟩) (fun c hc h => ?_) (fun c hc => Or.inr rfl)
  have h : kM + 1 ≤ kM := h
  omega
