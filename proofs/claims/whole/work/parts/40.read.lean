/-! ===== reading a text ===== -/
def inF (f : Nat → Int32) (s : Int32) : Nat → Bool
  | 0 => false
  | k + 1 => inF f s k || decide (f k = s)
theorem inF_iff {f : Nat → Int32} {s : Int32} : ∀ {k : Nat}, inF f s k = true ↔ ∃ j, j < k ∧ f j = s
  | 0 => by simp [inF]
  | k + 1 => by
    simp only [inF, Bool.or_eq_true, decide_eq_true_eq, inF_iff (k := k)]
    constructor
    · rintro (⟨j, h1, h2⟩ | h)
      · exact ⟨j, by omega, h2⟩
      · exact ⟨k, by omega, h⟩
    · rintro ⟨j, h1, h2⟩
      by_cases e : j = k
      · subst e; exact Or.inr h2
      · exact Or.inl ⟨j, by omega, h2⟩
/-- how many terms character i takes in a rule whose second side begins at mid (0: the first side is being read) -/
def prI (f : Nat → Int32) (mid i : Nat) : Int32 := if 7 ≤ i - mid then -1 else if mid ≠ 0 ∧ et_isv (f i) ∧ inF f (f i) (mid - 1) = false then -1 else et_pp (f i)
def ptI (f : Nat → Int32) (pat : Bool) (mid i : Nat) : Int32 := if pat = true then prI f mid i else et_pt (f i)
theorem ptI_cases (f : Nat → Int32) (pat : Bool) (mid i : Nat) : ptI f pat mid i = -1 ∨ ptI f pat mid i = 0 ∨ ptI f pat mid i = 1 ∨ ptI f pat mid i = 2 := by
  unfold ptI
  split
  · unfold prI
    split
    · exact Or.inl rfl
    · split
      · exact Or.inl rfl
      · exact et_pp_cases _
  · exact et_pt_cases _
/-- the first wrong place (0: none, j + 1: j), and where the second side begins -/
def fwN (f : Nat → Int32) (two pat : Bool) : Nat → Nat → Nat → Nat → Nat × Nat
  | 0, i, need, mid => (if need = 0 ∧ (two = false ∨ mid ≠ 0) then 0 else i + 1, mid)
  | t + 1, i, need, mid =>
    if need = 0 then (if two = false ∨ mid ≠ 0 ∨ f i ≠ 61 then (i + 1, mid) else fwN f two pat t (i + 1) 1 (i + 1))
    else if ptI f pat mid i = -1 then (i + 1, mid) else fwN f two pat t (i + 1) (need - 1 + (ptI f pat mid i).toNatClampNeg) mid
theorem nI_step {need : Nat} {p : Int32} (h : need ≠ 0) (hp : p = 0 ∨ p = 1 ∨ p = 2) : nI need + (p - 1) = nI (need - 1 + p.toNatClampNeg) := by
  obtain ⟨k, rfl⟩ : ∃ k, need = k + 1 := ⟨need - 1, by omega⟩
  rw [Nat.add_sub_cancel, ← nI_1]
  rcases hp with rfl | rfl | rfl
  · show nI k + 1 + -1 = nI (k + 0)
    rw [Int32.add_assoc, show (1 : Int32) + -1 = 0 from rfl, Int32.add_zero]
    rfl
  · show nI k + 1 + 0 = nI (k + 1)
    rw [Int32.add_zero, nI_1]
  · show nI k + 1 + 1 = nI (k + 2)
    rw [nI_1, nI_1]
