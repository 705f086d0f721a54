/-! ===== tables of the nodes; choices of classes for variables ===== -/
def kd (s : Int32) : Nat := if s = 43 ∨ s = 45 then 0 else if s = 42 ∨ s = 33 then 1 else 2
theorem pt_1 {s : Int32} (h : et_pt s = 1) : (s = 45 ∧ kd s = 0) ∨ (s = 33 ∧ kd s = 1) := by
  unfold et_pt at h
  split at h
  · rename_i e; subst e; exact Or.inr ⟨rfl, rfl⟩
  · repeat' (split at h)
    all_goals first | (rename_i e; subst e; exact Or.inl ⟨rfl, rfl⟩) | (exact absurd h (by decide))
theorem pt_2 {s : Int32} (h : et_pt s = 2) : (s = 43 ∧ kd s = 0) ∨ (s = 42 ∧ kd s = 1) ∨ (s = 94 ∧ kd s = 2) := by
  unfold et_pt at h
  repeat' (split at h)
  all_goals first | (rename_i e; subst e; exact Or.inl ⟨rfl, rfl⟩) | (rename_i e; subst e; exact Or.inr (Or.inl ⟨rfl, rfl⟩)) | (rename_i e; subst e; exact Or.inr (Or.inr ⟨rfl, rfl⟩)) | (exact absurd h (by decide))
theorem kd_le (s : Int32) : kd s ≤ 2 := by unfold kd; split; omega; split <;> omega
theorem kd_1 {s s' : Int32} (h : et_pt s = 1) (h' : et_pt s' = 1) (e : kd s = kd s') : s = s' := by
  rcases pt_1 h with ⟨a, b⟩ | ⟨a, b⟩ <;> rcases pt_1 h' with ⟨c, d⟩ | ⟨c, d⟩ <;> first | exact a.trans c.symm | (exfalso; rw [b, d] at e; omega)
theorem kd_1le {s : Int32} (h : et_pt s = 1) : kd s ≤ 1 := by rcases pt_1 h with ⟨a, b⟩ | ⟨a, b⟩ <;> omega
theorem kd_2 {s s' : Int32} (h : et_pt s = 2) (h' : et_pt s' = 2) (e : kd s = kd s') : s = s' := by
  rcases pt_2 h with ⟨a, b⟩ | ⟨a, b⟩ | ⟨a, b⟩ <;> rcases pt_2 h' with ⟨c, d⟩ | ⟨c, d⟩ | ⟨c, d⟩ <;> first | exact a.trans c.symm | (exfalso; rw [b, d] at e; omega)
theorem gFindN_step {g : gr} (dis : gDis g) {s : Int32} {l r k : Nat} (hk : k < gN g) : gFindN g s l r (k + 1) = if gIs g s l r k then some (gH g k) else gFindN g s l r k := by
  by_cases e : gIs g s l r k
  · rw [if_pos e]
    have : gFindN g s l r k = none := gFindN_none.mpr fun j hj hi => by
      have := dis j k (by omega) hk (hi.1.trans e.1.symm) (hi.2.1.trans e.2.1.symm) (hi.2.2.trans e.2.2.symm)
      omega
    rw [gFindN, this]
    exact if_pos e
  · rw [if_neg e, gFindN]
    cases gFindN g s l r k with
    | none => exact if_neg e
    | some c => rfl
def oI : Option Nat → Int32
  | none => -1
  | some c => nI c
theorem gPush_vs {gw : Bool} {lim : Nat} {vs vs' : Nat → Nat} {c : Int32} (h : et_isv c → vs (c - 97).toNatClampNeg = vs' (c - 97).toNatClampNeg) (stk : List Nat) (x : gx) : gPush gw lim vs c stk x = gPush gw lim vs' c stk x := by
  by_cases hv : et_isv c
  · rw [gPush_v hv, gPush_v hv, h hv]
  · unfold gPush
    rw [if_neg hv, if_neg hv]
theorem gEval_vs {gw : Bool} {lim : Nat} {vs vs' : Nat → Nat} : ∀ {w : List Int32} {x : gx}, (∀ c ∈ w, et_isv c → vs (c - 97).toNatClampNeg = vs' (c - 97).toNatClampNeg) → gEval gw lim vs w x = gEval gw lim vs' w x
  | [], x, _ => rfl
  | c :: w, x, h => by
    rw [gEval, gEval, gEval_vs (w := w) (fun c hc => h c (List.mem_cons_of_mem _ hc))]
    cases gEval gw lim vs' w x with
    | none => rfl
    | some q => exact gPush_vs (h c List.mem_cons_self) _ _
/-- choices: below m where the bit is set, 0 elsewhere; their order -/
def adm (m : Nat) (b0 b1 b2 : Bool) (t : Nat → Nat) : Prop := (if b0 = true then t 0 < m else t 0 = 0) ∧ (if b1 = true then t 1 < m else t 1 = 0) ∧ (if b2 = true then t 2 < m else t 2 = 0)
def clt (t u : Nat → Nat) : Prop := t 2 < u 2 ∨ (t 2 = u 2 ∧ (t 1 < u 1 ∨ (t 1 = u 1 ∧ t 0 < u 0)))
def cme (m : Nat) (t : Nat → Nat) : Nat := (m - t 2) * 1681 + (m - t 1) * 41 + (m - t 0)
theorem adm_cut {m : Nat} {b0 b1 b2 : Bool} {t : Nat → Nat} (h : adm m b0 b1 b2 t) : (b0 = true ∧ t 0 < m ∨ b0 = false ∧ t 0 = 0) ∧ (b1 = true ∧ t 1 < m ∨ b1 = false ∧ t 1 = 0) ∧ (b2 = true ∧ t 2 < m ∨ b2 = false ∧ t 2 = 0) := by
  obtain ⟨h0, h1, h2⟩ := h
  refine ⟨?_, ?_, ?_⟩
  · cases b0 <;> simp_all
  · cases b1 <;> simp_all
  · cases b2 <;> simp_all
theorem adm_of {m : Nat} {b0 b1 b2 : Bool} {t : Nat → Nat} (h : (b0 = true ∧ t 0 < m ∨ b0 = false ∧ t 0 = 0) ∧ (b1 = true ∧ t 1 < m ∨ b1 = false ∧ t 1 = 0) ∧ (b2 = true ∧ t 2 < m ∨ b2 = false ∧ t 2 = 0)) : adm m b0 b1 b2 t := by
  obtain ⟨h0, h1, h2⟩ := h
  refine ⟨?_, ?_, ?_⟩
  · cases b0 <;> simp_all
  · cases b1 <;> simp_all
  · cases b2 <;> simp_all
theorem nc_step {m : Nat} {b0 b1 b2 : Bool} {t t' : Nat → Nat} (hm : m ≤ 40) (h : adm m b0 b1 b2 t) (hc : (b0 = true ∧ t 0 + 1 < m ∧ t' 0 = t 0 + 1 ∧ t' 1 = t 1 ∧ t' 2 = t 2) ∨ ((b0 = true → m ≤ t 0 + 1) ∧ b1 = true ∧ t 1 + 1 < m ∧ t' 0 = 0 ∧ t' 1 = t 1 + 1 ∧ t' 2 = t 2) ∨ ((b0 = true → m ≤ t 0 + 1) ∧ (b1 = true → m ≤ t 1 + 1) ∧ b2 = true ∧ t 2 + 1 < m ∧ t' 0 = 0 ∧ t' 1 = 0 ∧ t' 2 = t 2 + 1)) : adm m b0 b1 b2 t' ∧ cme m t' < cme m t ∧ ∀ th, adm m b0 b1 b2 th → clt th t' → clt th t ∨ (th 0 = t 0 ∧ th 1 = t 1 ∧ th 2 = t 2) := by
  obtain ⟨a0, a1, a2⟩ := adm_cut h
  refine ⟨adm_of ?_, ?_, fun th hth hl => ?_⟩
  · rcases hc with ⟨c1, c2, c3, c4, c5⟩ | ⟨c1, c2, c3, c4, c5, c6⟩ | ⟨c1, c2, c3, c4, c5, c6, c7⟩
    · refine ⟨Or.inl ⟨c1, by omega⟩, by rw [c4]; exact a1, by rw [c5]; exact a2⟩
    · refine ⟨?_, Or.inl ⟨c2, by omega⟩, by rw [c6]; exact a2⟩
      rcases a0 with ⟨x, y⟩ | ⟨x, y⟩
      · exact Or.inl ⟨x, by omega⟩
      · exact Or.inr ⟨x, c4⟩
    · refine ⟨?_, ?_, Or.inl ⟨c3, by omega⟩⟩
      · rcases a0 with ⟨x, y⟩ | ⟨x, y⟩
        · exact Or.inl ⟨x, by omega⟩
        · exact Or.inr ⟨x, c5⟩
      · rcases a1 with ⟨x, y⟩ | ⟨x, y⟩
        · exact Or.inl ⟨x, by omega⟩
        · exact Or.inr ⟨x, c6⟩
  · unfold cme
    rcases hc with ⟨c1, c2, c3, c4, c5⟩ | ⟨c1, c2, c3, c4, c5, c6⟩ | ⟨c1, c2, c3, c4, c5, c6, c7⟩
    · rw [c3, c4, c5]; omega
    · rw [c4, c5, c6]; omega
    · rw [c5, c6, c7]; omega
  · obtain ⟨e0, e1, e2⟩ := adm_cut hth
    unfold clt at hl ⊢
    rcases hc with ⟨c1, c2, c3, c4, c5⟩ | ⟨c1, c2, c3, c4, c5, c6⟩ | ⟨c1, c2, c3, c4, c5, c6, c7⟩
    · omega
    · have : th 0 ≤ t 0 := by
        rcases e0 with ⟨x, y⟩ | ⟨x, y⟩
        · have := c1 x; omega
        · omega
      omega
    · have : th 0 ≤ t 0 := by
        rcases e0 with ⟨x, y⟩ | ⟨x, y⟩
        · have := c1 x; omega
        · omega
      have : th 1 ≤ t 1 := by
        rcases e1 with ⟨x, y⟩ | ⟨x, y⟩
        · have := c2 x; omega
        · omega
      omega
theorem nc_end {m : Nat} {b0 b1 b2 : Bool} {t : Nat → Nat} (c0 : b0 = true → m ≤ t 0 + 1) (c1 : b1 = true → m ≤ t 1 + 1) (c2 : b2 = true → m ≤ t 2 + 1) : ∀ th, adm m b0 b1 b2 th → clt th t ∨ (th 0 = t 0 ∧ th 1 = t 1 ∧ th 2 = t 2) := by
  intro th hth
  obtain ⟨e0, e1, e2⟩ := adm_cut hth
  have h0 : th 0 ≤ t 0 := by
    rcases e0 with ⟨x, y⟩ | ⟨x, y⟩
    · have := c0 x; omega
    · omega
  have h1 : th 1 ≤ t 1 := by
    rcases e1 with ⟨x, y⟩ | ⟨x, y⟩
    · have := c1 x; omega
    · omega
  have h2 : th 2 ≤ t 2 := by
    rcases e2 with ⟨x, y⟩ | ⟨x, y⟩
    · have := c2 x; omega
    · omega
  unfold clt
  omega
