/-! ===== what a text is that reads well ===== -/
theorem et_isv_pt {c : Int32} (h : et_isv c) : et_pt c = -1 := by
  obtain ⟨h1, -, h3⟩ := et_isv_in h
  rw [h3]
  rcases (show (c - 97).toNatClampNeg = 0 ∨ (c - 97).toNatClampNeg = 1 ∨ (c - 97).toNatClampNeg = 2 by omega) with e | e | e <;> rw [e] <;> decide
/-- one side reads well from i on, need terms being wanted; m counts -/
def okS (pt : Nat → Int32) (i e need : Nat) (m : Nat → Nat) : Prop := m i = need ∧ m e = 0 ∧ ∀ j, i ≤ j → j < e → pt j ≠ -1 ∧ m (j + 1) + 1 = m j + (pt j).toNatClampNeg ∧ 1 ≤ m j
theorem okS_cons {pt : Nat → Int32} {i e need : Nat} {m : Nat → Nat} (hie : i < e) (hp : pt i ≠ -1) (hn : 1 ≤ need) (h : okS pt (i + 1) e (need - 1 + (pt i).toNatClampNeg) m) : okS pt i e need (gUp m i need) := by
  obtain ⟨h1, h2, h3⟩ := h
  refine ⟨gUp_s _ _ _, by rw [gUp_n _ _ (by omega)]; exact h2, fun j hj1 hj2 => ?_⟩
  by_cases ej : j = i
  · subst ej
    rw [gUp_s, gUp_n _ _ (show j + 1 ≠ j by omega), h1]
    exact ⟨hp, by omega, hn⟩
  · rw [gUp_n _ _ ej, gUp_n _ _ (show j + 1 ≠ i by omega)]
    exact h3 j (by omega) hj2
theorem fw_one {f : Nat → Int32} {two pat : Bool} : ∀ {t i need mid mid' : Nat}, (two = false ∨ mid ≠ 0) → fwN f two pat t i need mid = (0, mid') → mid' = mid ∧ ∃ m, okS (ptI f pat mid) i (i + t) need m
  | 0, i, need, mid, mid', hm, h => by
    unfold fwN at h
    by_cases e : need = 0 ∧ (two = false ∨ mid ≠ 0)
    · rw [if_pos e] at h
      cases h
      exact ⟨rfl, fun _ => 0, e.1.symm, rfl, fun j h1 h2 => absurd h2 (by omega)⟩
    · rw [if_neg e] at h
      exact absurd (Prod.mk.inj h).1 (by omega)
  | t + 1, i, need, mid, mid', hm, h => by
    unfold fwN at h
    by_cases e : need = 0
    · rw [if_pos e, if_pos (hm.elim Or.inl (fun z => Or.inr (Or.inl z)))] at h
      exact absurd (Prod.mk.inj h).1 (by omega)
    · rw [if_neg e] at h
      by_cases e2 : ptI f pat mid i = -1
      · rw [if_pos e2] at h
        exact absurd (Prod.mk.inj h).1 (by omega)
      · rw [if_neg e2] at h
        obtain ⟨h1, m, h2⟩ := fw_one hm h
        rw [show i + 1 + t = i + (t + 1) by omega] at h2
        exact ⟨h1, _, okS_cons (by omega) e2 (by omega) h2⟩
theorem fw_two {f : Nat → Int32} {pat : Bool} : ∀ {t i need mid' : Nat}, fwN f true pat t i need 0 = (0, mid') → ∃ e, i ≤ e ∧ e < i + t ∧ mid' = e + 1 ∧ f e = 61 ∧ (∃ m, okS (ptI f pat 0) i e need m) ∧ ∃ m, okS (ptI f pat (e + 1)) (e + 1) (i + t) 1 m
  | 0, i, need, mid', h => by
    unfold fwN at h
    rw [if_neg (fun z => z.2.elim (fun y => by cases y) (fun y => y rfl))] at h
    exact absurd (Prod.mk.inj h).1 (by omega)
  | t + 1, i, need, mid', h => by
    unfold fwN at h
    by_cases e : need = 0
    · rw [if_pos e] at h
      by_cases e2 : f i = 61
      · rw [if_neg (fun z => z.elim (fun y => by cases y) (fun y => y.elim (fun y => y rfl) (fun y => y e2)))] at h
        obtain ⟨h1, m, h2⟩ := fw_one (Or.inr (by omega)) h
        rw [show i + 1 + t = i + (t + 1) by omega] at h2
        exact ⟨i, Nat.le_refl _, by omega, h1, e2, ⟨fun _ => 0, e.symm, rfl, fun j h1 h2 => absurd h2 (by omega)⟩, m, h2⟩
      · rw [if_pos (Or.inr (Or.inr e2))] at h
        exact absurd (Prod.mk.inj h).1 (by omega)
    · rw [if_neg e] at h
      by_cases e2 : ptI f pat 0 i = -1
      · rw [if_pos e2] at h
        exact absurd (Prod.mk.inj h).1 (by omega)
      · rw [if_neg e2] at h
        obtain ⟨e3, h1, h2, h3, h4, ⟨m, h5⟩, h6⟩ := fw_two h
        rw [show i + 1 + t = i + (t + 1) by omega] at h2 h6
        exact ⟨e3, by omega, h2, h3, h4, ⟨_, okS_cons (by omega) e2 (by omega) h5⟩, h6⟩
/-- a side that reads well is a term, or a pattern -/
theorem okS_wf {f : Nat → Int32} {pt : Nat → Int32} {i e : Nat} {m : Nat → Nat} (hpt : ∀ j, i ≤ j → j < e → pt j ≠ -1 → pt j = et_pp (f j)) (hie : i ≤ e) (h : okS pt i e 1 m) : wf m f i e := by
  obtain ⟨h1, h2, h3⟩ := h
  refine ⟨Nat.lt_of_le_of_ne hie (fun z => by rw [z, h2] at h1; exact absurd h1 (by decide)), h1, h2, fun j hj1 hj2 => ?_⟩
  obtain ⟨a1, a2, a3⟩ := h3 j hj1 hj2
  have e1 := hpt j hj1 hj2 a1
  rw [e1] at a1 a2
  exact ⟨a1, a2, a3⟩
theorem ptI_pp {f : Nat → Int32} {pat : Bool} {mid j : Nat} (h : ptI f pat mid j ≠ -1) : ptI f pat mid j = et_pp (f j) := by
  unfold ptI at h ⊢
  cases pat with
  | true =>
    simp only [if_true] at h ⊢
    unfold prI at h ⊢
    by_cases e : 7 ≤ j - mid
    · rw [if_pos e] at h
      exact absurd rfl h
    · rw [if_neg e] at h ⊢
      by_cases e2 : mid ≠ 0 ∧ et_isv (f j) ∧ inF f (f j) (mid - 1) = false
      · rw [if_pos e2] at h
        exact absurd rfl h
      · rw [if_neg e2]
  | false =>
    rw [if_neg (by decide)] at h ⊢
    rw [et_pp, if_neg (fun z => h (et_isv_pt z))]
theorem ptI_nv {f : Nat → Int32} {mid j : Nat} (h : ptI f false mid j ≠ -1) : ¬ et_isv (f j) := fun z => h (by rw [ptI, if_neg (by decide)]; exact et_isv_pt z)
/-- a text that is a term -/
theorem fw_term {f : Nat → Int32} {sz : Nat} (h : (fwN f false false sz 0 1 0).1 = 0) : ∃ m, wf m f 0 sz ∧ ∀ j, j < sz → ¬ et_isv (f j) := by
  obtain ⟨-, m, h2⟩ := fw_one (f := f) (two := false) (pat := false) (t := sz) (i := 0) (need := 1) (mid := 0) (mid' := (fwN f false false sz 0 1 0).2) (Or.inl rfl) (Prod.ext h rfl)
  rw [Nat.zero_add] at h2
  exact ⟨m, okS_wf (fun j _ _ z => ptI_pp z) (Nat.zero_le _) h2, fun j hj => ptI_nv (h2.2.2 j (Nat.zero_le _) hj).1⟩
/-- a text that is two terms -/
theorem fw_eq {f : Nat → Int32} {sz : Nat} {pat : Bool} (h : (fwN f true pat sz 0 1 0).1 = 0) : ∃ e, e < sz ∧ (fwN f true pat sz 0 1 0).2 = e + 1 ∧ f e = 61 ∧ (∃ m, wf m f 0 e) ∧ (∃ m, wf m f (e + 1) sz) ∧ (∀ j, j < e → ptI f pat 0 j ≠ -1) ∧ ∀ j, e < j → j < sz → ptI f pat (e + 1) j ≠ -1 := by
  obtain ⟨e, h1, h2, h3, h4, ⟨m, h5⟩, m', h6⟩ := fw_two (f := f) (pat := pat) (t := sz) (i := 0) (need := 1) (mid' := (fwN f true pat sz 0 1 0).2) (Prod.ext h rfl)
  rw [Nat.zero_add] at h2 h6
  exact ⟨e, h2, h3, h4, ⟨m, okS_wf (fun j _ _ z => ptI_pp z) h1 h5⟩, ⟨m', okS_wf (fun j _ _ z => ptI_pp z) h2 h6⟩, fun j hj => (h5.2.2 j (Nat.zero_le _) hj).1, fun j hj1 hj2 => (h6.2.2 j hj1 hj2).1⟩
