/-! ===== a term, from its end to its front ===== -/
/-- nothing of the first is lost in the second -/
def gLe (g g' : gr) : Prop := gN g ≤ gN g' ∧ gC g ≤ gC g' ∧ ∀ n, n < gN g → gS g' n = gS g n ∧ gL g' n = gL g n ∧ gR g' n = gR g n ∧ gH g' n = gH g n
theorem gLe.refl (g : gr) : gLe g g := ⟨Nat.le_refl _, Nat.le_refl _, fun _ _ => ⟨rfl, rfl, rfl, rfl⟩⟩
theorem gLe.trans {a b c : gr} (h1 : gLe a b) (h2 : gLe b c) : gLe a c := by
  refine ⟨Nat.le_trans h1.1 h2.1, Nat.le_trans h1.2.1 h2.2.1, fun n hn => ?_⟩
  obtain ⟨e1, e2, e3, e4⟩ := h1.2.2 n hn
  obtain ⟨f1, f2, f3, f4⟩ := h2.2.2 n (Nat.lt_of_lt_of_le hn h1.1)
  exact ⟨f1.trans e1, f2.trans e2, f3.trans e3, f4.trans e4⟩
theorem gAdd_le (x : gx) (s : Int32) (l r : Nat) : gLe x.1 (gAdd x s l r).1 :=
  ⟨Nat.le_succ _, Nat.le_succ _, fun n hn => ⟨gUp_n (gS x.1) s (by omega), gUp_n (gL x.1) l (by omega), gUp_n (gR x.1) r (by omega), gUp_n (gH x.1) _ (by omega)⟩⟩
theorem gAdd_ok {B : Nat} {x : gx} {s : Int32} {l r : Nat} (ok : gOk B x.1) (hl : l ≤ gC x.1) (hr : r ≤ gC x.1) (hB : gN x.1 < B) : gOk B (gAdd x s l r).1 := by
  obtain ⟨o1, o2, o3⟩ := ok
  refine ⟨hB, Nat.succ_le_succ o2, fun n hn => ?_⟩
  have hn' : n < gN x.1 + 1 := hn
  show gUp (gH x.1) (gN x.1) (gC x.1) n < gC x.1 + 1 ∧ gUp (gL x.1) (gN x.1) l n ≤ gC x.1 + 1 ∧ gUp (gR x.1) (gN x.1) r n ≤ gC x.1 + 1
  by_cases e : n = gN x.1
  · subst e
    rw [gUp_s, gUp_s, gUp_s]
    omega
  · rw [gUp_n _ _ e, gUp_n _ _ e, gUp_n _ _ e]
    have := o3 n (by omega)
    omega
theorem gFindN_lt {g : gr} {s : Int32} {l r c : Nat} : ∀ {k : Nat}, gFindN g s l r k = some c → ∃ j, j < k ∧ gIs g s l r j ∧ gH g j = c
  | 0, h => by simp [gFindN] at h
  | k + 1, h => by
    cases hf : gFindN g s l r k with
    | some c' =>
      simp only [gFindN, hf] at h
      cases h
      obtain ⟨j, h1, h2⟩ := gFindN_lt hf
      exact ⟨j, by omega, h2⟩
    | none =>
      simp only [gFindN, hf] at h
      by_cases e : gIs g s l r k
      · rw [if_pos e] at h
        cases h
        exact ⟨k, by omega, e, rfl⟩
      · rw [if_neg e] at h
        cases h
theorem gHome_ok {B lim : Nat} {gw : Bool} {x x' : gx} {s : Int32} {l r c : Nat} (ok : gOk B x.1) (hl : l ≤ gC x.1) (hr : r ≤ gC x.1) (hB : gN x.1 < B ∨ lim ≤ B) (h : gHome gw lim x s l r = some (c, x')) : gOk B x'.1 ∧ c < gC x'.1 ∧ gLe x.1 x'.1 ∧ gN x'.1 ≤ gN x.1 + 1 := by
  cases hf : gFind x.1 s l r with
  | some c' =>
    simp only [gHome, hf] at h
    cases h
    obtain ⟨j, h1, -, h2⟩ := gFindN_lt hf
    exact ⟨ok, by rw [← h2]; exact (ok.2.2 j h1).1, gLe.refl _, Nat.le_succ _⟩
  | none =>
    simp only [gHome, hf] at h
    by_cases e : gw = true ∧ gN x.1 < lim
    · rw [if_pos e] at h
      cases h
      exact ⟨gAdd_ok ok hl hr (by omega), Nat.lt_succ_self _, gAdd_le x s l r, Nat.le_refl _⟩
    · rw [if_neg e] at h
      cases h
/-- one character, the classes of the terms behind it being stacked -/
def gPush (gw : Bool) (lim : Nat) (vs : Nat → Nat) (c : Int32) (stk : List Nat) (x : gx) : Option (List Nat × gx) :=
  if et_isv c then some (vs (c - 97).toNatClampNeg :: stk, x)
  else if et_pt c = 2 then (gHome gw lim x c (stk.getD 0 0 + 1) (stk.getD 1 0 + 1)).map (fun q => (q.1 :: stk.drop 2, q.2))
  else if et_pt c = 1 then (gHome gw lim x c (stk.getD 0 0 + 1) 0).map (fun q => (q.1 :: stk.drop 1, q.2))
  else (gHome gw lim x c 0 0).map (fun q => (q.1 :: stk, q.2))
def gEval (gw : Bool) (lim : Nat) (vs : Nat → Nat) : List Int32 → gx → Option (List Nat × gx)
  | [], x => some ([], x)
  | c :: w, x => match gEval gw lim vs w x with
    | none => none
    | some q => gPush gw lim vs c q.1 q.2
/-- the k characters of a row ahead of a place -/
def sg (row : Nat → Int32) (to : Nat) : Nat → List Int32
  | 0 => []
  | k + 1 => row (to - (k + 1)) :: sg row to k
/-- how many terms a character takes -/
def pw (c : Int32) : Nat := (et_pp c).toNatClampNeg
/-- the row is a term from one place to another: m counts the terms that are wanting -/
def wf (m : Nat → Nat) (row : Nat → Int32) (fr to : Nat) : Prop := fr < to ∧ m fr = 1 ∧ m to = 0 ∧ ∀ i, fr ≤ i → i < to → et_pp (row i) ≠ -1 ∧ m (i + 1) + 1 = m i + pw (row i) ∧ 1 ≤ m i
theorem wf_le {m : Nat → Nat} {row : Nat → Int32} {fr to : Nat} (h : wf m row fr to) : ∀ k, k ≤ to - fr → m (to - k) ≤ k
  | 0, _ => by rw [Nat.sub_zero, h.2.2.1]; exact Nat.le_refl _
  | k + 1, hk => by
    have ih := wf_le h k (by omega)
    obtain ⟨-, h2, -⟩ := h.2.2.2 (to - (k + 1)) (by omega) (by omega)
    rw [show to - (k + 1) + 1 = to - k by omega] at h2
    omega
theorem eI_lt {a : Nat} (ha : a < 2 ^ 31) : eI a < nI a := by
  cases a with
  | zero => decide +kernel
  | succ k => rw [eI_s]; exact nI_lt (by omega) ha
theorem pw_0 {c : Int32} (h : et_pp c = 0) : pw c = 0 := by unfold pw; rw [h]; rfl
theorem pw_1 {c : Int32} (h : et_pp c = 1) : pw c = 1 := by unfold pw; rw [h]; rfl
theorem pw_2 {c : Int32} (h : et_pp c = 2) : pw c = 2 := by unfold pw; rw [h]; rfl
theorem nI_sub {a b : Nat} (h : b ≤ a) : nI a - nI b = nI (a - b) := by
  have h9 : nI a = nI (a - b) + nI b := by rw [nI_add, Nat.sub_add_cancel h]
  rw [h9]
  simp [Int32.sub_eq_add_neg, Int32.add_assoc, Int32.add_right_neg]
theorem et_isv_in {c : Int32} (h : et_isv c) : (c - 97).toNatClampNeg < 3 ∧ c - 97 = nI (c - 97).toNatClampNeg ∧ c = nI (97 + (c - 97).toNatClampNeg) := by
  obtain ⟨h1, h2⟩ := h
  have c1 := et_le_i h1
  have c2 := et_lt_i h2
  have a1 : (97 : Int32).toInt = 97 := rfl
  have a2 : (100 : Int32).toInt = 100 := rfl
  obtain ⟨j, hj, rfl⟩ : ∃ j : Nat, j < 2 ^ 31 ∧ c = nI j := nI_of (fun z => by have := et_lt_i z; have a0 : (0 : Int32).toInt = 0 := rfl; omega)
  rw [nI_toInt hj] at c1 c2
  rw [show (97 : Int32) = nI 97 from rfl, nI_sub (by omega), nI_clamp (by omega)]
  exact ⟨by omega, rfl, by rw [show 97 + (j - 97) = j by omega]⟩
