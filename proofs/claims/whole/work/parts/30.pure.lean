/-! ===== rows over plain numbers; graphs ===== -/
section ETN
variable {sc : et_X} {Y : et_Y} {d mc ms : Nat} {Post : et_R → (Nat → et_MC) → Nat → Prop} {pc : Nat} {lv : List (Option Value)} {st : List Value} {h : Nat → et_MC} {n nc ns : Nat}
theorem et_ialn {k N i : Nat} {f : Nat → Int32} (hdg : decode Y.2.1 pc = .ok (.iaload, 1)) (hh : h k = .inl (0, N, .inl f)) (hi : i < N) (hN : N < 2 ^ 31) (kk : et_M sc Y d mc ms Post (pc + 1) lv (.int (f i) :: st) h n nc ns) : et_M sc Y d mc ms Post pc lv (.int (nI i) :: .ref k :: st) h n nc ns := by
  refine et_iald hdg hh (vp_in_nI hi hN) ?_
  rw [nI_clamp (by omega)]
  exact kk
theorem et_iasn {k N i : Nat} {f : Nat → Int32} {x : Int32} (hdg : decode Y.2.1 pc = .ok (.iastore, 1)) (hh : h k = .inl (0, N, .inl f)) (hi : i < N) (hN : N < 2 ^ 31) (kk : et_M sc Y d mc ms Post (pc + 1) lv st (va_up h k (.inl (0, N, .inl (upd f i x)))) n nc ns) : et_M sc Y d mc ms Post pc lv (.int x :: .int (nI i) :: .ref k :: st) h n nc ns := by
  refine et_iast hdg hh (vp_in_nI hi hN) ?_
  rw [nI_clamp (by omega)]
  exact kk
theorem et_laln {k N i : Nat} {f : Nat → Int64} (hdg : decode Y.2.1 pc = .ok (.laload, 1)) (hh : h k = .inl (1, N, .inr (.inl f))) (hi : i < N) (hN : N < 2 ^ 31) (kk : et_M sc Y d mc ms Post (pc + 1) lv (.long (f i) :: st) h n nc ns) : et_M sc Y d mc ms Post pc lv (.int (nI i) :: .ref k :: st) h n nc ns := by
  refine et_lald hdg hh (vp_in_nI hi hN) ?_
  rw [nI_clamp (by omega)]
  exact kk
theorem et_lasn {k N i : Nat} {f : Nat → Int64} {x : Int64} (hdg : decode Y.2.1 pc = .ok (.lastore, 1)) (hh : h k = .inl (1, N, .inr (.inl f))) (hi : i < N) (hN : N < 2 ^ 31) (kk : et_M sc Y d mc ms Post (pc + 1) lv st (va_up h k (.inl (1, N, .inr (.inl (vp_updL f i x))))) n nc ns) : et_M sc Y d mc ms Post pc lv (.long x :: .int (nI i) :: .ref k :: st) h n nc ns := by
  refine et_last hdg hh (vp_in_nI hi hN) ?_
  rw [nI_clamp (by omega)]
  exact kk
end ETN
/-- a class or none, as the arrays have it -/
def eI (k : Nat) : Int32 := nI k - 1
theorem eI_0 : eI 0 = -1 := by decide +kernel
theorem eI_s (k : Nat) : eI (k + 1) = nI k := nI_pred k
theorem eI_ns {k : Nat} (hk : k < 2 ^ 31) : ¬ nI k = -1 := fun h => by
  have h1 : (nI k).toInt = (-1 : Int32).toInt := by rw [h]
  rw [nI_toInt hk] at h1
  have h2 : (-1 : Int32).toInt = -1 := rfl
  omega
theorem eI_eq {a b : Nat} (ha : a < 2 ^ 31) (hb : b < 2 ^ 31) : eI a = eI b ↔ a = b := by
  constructor
  · intro h
    cases a with
    | zero =>
      cases b with
      | zero => rfl
      | succ b => rw [eI_0, eI_s] at h; exact absurd h.symm (eI_ns (by omega))
    | succ a =>
      cases b with
      | zero => rw [eI_0, eI_s] at h; exact absurd h (eI_ns (by omega))
      | succ b => rw [eI_s, eI_s] at h; rw [(nI_eq (by omega) (by omega)).mp h]
  · intro h
    rw [h]
theorem eI_none {a : Nat} (ha : a < 2 ^ 31) : eI a = -1 ↔ a = 0 := by
  rw [← eI_0]
  exact eI_eq ha (by decide)
/-- a graph: sign, left, right (none: 0, class k: k + 1), home of each node; how many nodes, how many classes -/
abbrev gr : Type := (Nat → Int32) × (Nat → Nat) × (Nat → Nat) × (Nat → Nat) × Nat × Nat
abbrev gS (g : gr) : Nat → Int32 := g.1
abbrev gL (g : gr) : Nat → Nat := g.2.1
abbrev gR (g : gr) : Nat → Nat := g.2.2.1
abbrev gH (g : gr) : Nat → Nat := g.2.2.2.1
abbrev gN (g : gr) : Nat := g.2.2.2.2.1
abbrev gC (g : gr) : Nat := g.2.2.2.2.2
def gUp {α : Type} (f : Nat → α) (i : Nat) (x : α) : Nat → α := fun j => if j = i then x else f j
theorem gUp_s {α : Type} (f : Nat → α) (i : Nat) (x : α) : gUp f i x i = x := by simp [gUp]
theorem gUp_n {α : Type} (f : Nat → α) {i j : Nat} (x : α) (h : j ≠ i) : gUp f i x j = f j := by simp [gUp, h]
/-- is node k the node of that sign and those parts -/
abbrev gIs (g : gr) (s : Int32) (l r k : Nat) : Prop := gS g k = s ∧ gL g k = l ∧ gR g k = r
def gFindN (g : gr) (s : Int32) (l r : Nat) : Nat → Option Nat
  | 0 => none
  | k + 1 => match gFindN g s l r k with
    | some c => some c
    | none => if gIs g s l r k then some (gH g k) else none
/-- the class of the node of that sign and those parts -/
def gFind (g : gr) (s : Int32) (l r : Nat) : Option Nat := gFindN g s l r (gN g)
theorem gFindN_none {g : gr} {s : Int32} {l r : Nat} : ∀ {k : Nat}, gFindN g s l r k = none ↔ ∀ j, j < k → ¬ gIs g s l r j
  | 0 => by simp [gFindN]
  | k + 1 => by
    have ih := gFindN_none (g := g) (s := s) (l := l) (r := r) (k := k)
    cases hf : gFindN g s l r k with
    | some c =>
      simp only [gFindN, hf]
      constructor
      · intro h; cases h
      · intro h
        rw [ih.mpr (fun j hj => h j (by omega))] at hf
        cases hf
    | none =>
      simp only [gFindN, hf]
      constructor
      · intro h j hj
        by_cases e : j = k
        · subst e
          intro hi
          rw [if_pos hi] at h
          cases h
        · exact ih.mp hf j (by omega)
      · intro h
        rw [if_neg (h k (by omega))]
theorem gFindN_some {g : gr} {s : Int32} {l r j : Nat} (hj : gIs g s l r j) (hno : ∀ i, i < j → ¬ gIs g s l r i) : ∀ {k : Nat}, j < k → gFindN g s l r k = some (gH g j)
  | 0, h => absurd h (Nat.not_lt_zero _)
  | k + 1, h => by
    by_cases e : j = k
    · subst e
      rw [gFindN, gFindN_none.mpr hno]
      simp only
      rw [if_pos hj]
    · rw [gFindN, gFindN_some hj hno (show j < k by omega)]
/-- a graph with the names of its classes -/
abbrev gx : Type := gr × (Nat → Nat)
def gAdd (x : gx) (s : Int32) (l r : Nat) : gx := ((gUp (gS x.1) (gN x.1) s, gUp (gL x.1) (gN x.1) l, gUp (gR x.1) (gN x.1) r, gUp (gH x.1) (gN x.1) (gC x.1), gN x.1 + 1, gC x.1 + 1), gUp x.2 (gC x.1) (gC x.1))
/-- the class of a node; a new one if growing and there are fewer than lim -/
def gHome (gw : Bool) (lim : Nat) (x : gx) (s : Int32) (l r : Nat) : Option (Nat × gx) := match gFind x.1 s l r with
  | some c => some (c, x)
  | none => if gw = true ∧ gN x.1 < lim then some (gC x.1, gAdd x s l r) else none
abbrev et_isv (x : Int32) : Prop := 97 ≤ x ∧ x < 100
def et_pp (x : Int32) : Int32 := if et_isv x then 0 else et_pt x
theorem et_pt_cases (x : Int32) : et_pt x = -1 ∨ et_pt x = 0 ∨ et_pt x = 1 ∨ et_pt x = 2 := by
  unfold et_pt
  repeat' split
  all_goals simp
theorem et_pp_cases (x : Int32) : et_pp x = -1 ∨ et_pp x = 0 ∨ et_pp x = 1 ∨ et_pp x = 2 := by
  unfold et_pp
  split
  · simp
  · exact et_pt_cases x
def bI (b : Bool) : Int32 := if b = true then 1 else 0
/-- bounds of a graph -/
def gOk (B : Nat) (g : gr) : Prop := gN g ≤ B ∧ gC g ≤ gN g ∧ ∀ n, n < gN g → gH g n < gC g ∧ gL g n ≤ gC g ∧ gR g n ≤ gC g
/-- the graph in the class's cells -/
def et_gh (x : gx) (h : Nat → et_MC) : Prop := ∃ a4 a5 a6 a7 a8 a9 : Nat → Int32, h 3 = .inr (1, [.ref 4, .ref 5, .ref 6, .ref 7, .int (nI (gN x.1)), .int (nI (gC x.1)), .ref 8, .ref 9]) ∧ h 4 = .inl (0, 40, .inl a4) ∧ h 5 = .inl (0, 40, .inl a5) ∧ h 6 = .inl (0, 40, .inl a6) ∧ h 7 = .inl (0, 40, .inl a7) ∧ h 8 = .inl (0, 40, .inl a8) ∧ h 9 = .inl (0, 40, .inl a9) ∧
  (∀ n, n < gN x.1 → a4 n = gS x.1 n ∧ a5 n = eI (gL x.1 n) ∧ a6 n = eI (gR x.1 n) ∧ a7 n = nI (gH x.1 n)) ∧ ∀ c, c < gC x.1 → a8 c = nI (x.2 c)
/-- the cells beside the graph -/
def et_g9 (h h' : Nat → et_MC) : Prop := ∀ k, (k < 3 ∨ 9 < k) → h' k = h k
