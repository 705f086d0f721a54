/-! ===== matching, place by place ===== -/
theorem mt_congr {g : gr} {row : Nat → Int32} {e p : Nat} {se se' vt vt' th : Nat → Nat} (h1 : ∀ q ∈ stN row e (e - p), se q = se' q) (h2 : ∀ v, v < 3 → inF row (nI (97 + v)) p = true → vt v = vt' v) : mtP g row e se vt th p ↔ mtP g row e se' vt' th p := by
  unfold mtP
  rw [List.map_congr_left h1]
  refine and_congr_left fun _ => ⟨fun h v a b => (h v a b).trans (h2 v a b), fun h v a b => (h v a b).trans (h2 v a b).symm⟩
/-- the places behind a sign: the first part, the second, and those that were waiting -/
theorem stN_cases {row : Nat → Int32} {mm : Nat → Nat} {e p q : Nat} (hw : wf mm row 0 e) (hp : p < e) (hq : q ∈ stN row e (e - (p + 1))) : (pw (row p) ≠ 0 ∧ q = p + 1) ∨ (pw (row p) = 2 ∧ q = (stN row e (e - (p + 1))).getD 1 e) ∨ q ∈ (stN row e (e - (p + 1))).drop (pw (row p)) := by
  obtain ⟨w1, w2, w3⟩ := hw.2.2.2 p (Nat.zero_le _) hp
  have hL := stN_len hw (e - (p + 1)) (by omega)
  rw [show e - (e - (p + 1)) = p + 1 by omega] at hL
  have hd := fun (h : e - (p + 1) ≠ 0) => stN_hd (row := row) (e := e) h
  generalize hS : stN row e (e - (p + 1)) = S at hL hd hq ⊢
  have h3 : pw (row p) = 0 ∨ pw (row p) = 1 ∨ pw (row p) = 2 := by
    rcases et_pp_cases (row p) with z | z | z | z
    · exact absurd z w1
    · exact Or.inl (pw_0 z)
    · exact Or.inr (Or.inl (pw_1 z))
    · exact Or.inr (Or.inr (pw_2 z))
  rcases h3 with e0 | e0 | e0
  · rw [e0]; exact Or.inr (Or.inr (by simpa using hq))
  · rw [e0] at w2 ⊢
    cases S with
    | nil => cases hq
    | cons a b =>
      have ha : a = p + 1 := by
        by_cases z : e - (p + 1) = 0
        · rw [z] at hS; simp [stN] at hS
        · have := hd z; simp at this; omega
      rcases List.mem_cons.mp hq with z | z
      · exact Or.inl ⟨by decide, z.trans ha⟩
      · exact Or.inr (Or.inr (by simpa using z))
  · rw [e0] at w2 ⊢
    match S, hL, hS, hd, hq with
    | [], _, _, _, hq => cases hq
    | [a], hL, _, _, _ => simp at hL; omega
    | a :: b :: c, _, hS, hd, hq =>
      have ha : a = p + 1 := by
        by_cases z : e - (p + 1) = 0
        · rw [z] at hS; simp [stN] at hS
        · have := hd z; simp at this; omega
      rcases List.mem_cons.mp hq with z | z
      · exact Or.inl ⟨by decide, z.trans ha⟩
      · rcases List.mem_cons.mp z with z | z
        · exact Or.inr (Or.inl ⟨rfl, z⟩)
        · exact Or.inr (Or.inr (by simpa using z))
theorem seU_keep {g : gr} {row : Nat → Int32} {mm : Nat → Nat} {e p n q : Nat} {se : Nat → Nat} (hw : wf mm row 0 e) (hp : p < e) (hq : q ≤ p ∨ q ∈ (stN row e (e - (p + 1))).drop (pw (row p))) : seU g (pw (row p)) ((stN row e (e - (p + 1))).getD 1 e) p n se q = se q := by
  obtain ⟨w1, w2, w3⟩ := hw.2.2.2 p (Nat.zero_le _) hp
  have hL := stN_len hw (e - (p + 1)) (by omega)
  rw [show e - (e - (p + 1)) = p + 1 by omega] at hL
  have inc := stN_inc (row := row) (show e - (p + 1) ≤ e by omega)
  have h3 : pw (row p) = 0 ∨ pw (row p) = 1 ∨ pw (row p) = 2 := by
    rcases et_pp_cases (row p) with z | z | z | z
    · exact absurd z w1
    · exact Or.inl (pw_0 z)
    · exact Or.inr (Or.inl (pw_1 z))
    · exact Or.inr (Or.inr (pw_2 z))
  have hd := fun (h : e - (p + 1) ≠ 0) => stN_hd (row := row) (e := e) h
  generalize hS : stN row e (e - (p + 1)) = S at hL hd hq inc ⊢
  rcases h3 with e0 | e0 | e0
  · rw [e0]; rfl
  · rw [e0] at w2 hq ⊢
    show gUp se (p + 1) _ q = se q
    refine gUp_n _ _ fun z => ?_
    rcases hq with hq | hq
    · omega
    · cases S with
      | nil => cases hq
      | cons a b =>
        have ha : a = p + 1 := by
          by_cases z : e - (p + 1) = 0
          · rw [z] at hS; simp [stN] at hS
          · have := hd z; simp at this; omega
        have := (List.pairwise_cons.mp inc).1 q (by simpa using hq)
        omega
  · rw [e0] at w2 hq ⊢
    match S, hL, hS, hd, hq, inc with
    | [], hL, _, _, _, _ => simp at hL; omega
    | [a], hL, _, _, _, _ => simp at hL; omega
    | a :: b :: c, _, hS, hd, hq, inc =>
      have ha : a = p + 1 := by
        by_cases z : e - (p + 1) = 0
        · rw [z] at hS; simp [stN] at hS
        · have := hd z; simp at this; omega
      have i1 := List.pairwise_cons.mp inc
      have i2 := List.pairwise_cons.mp i1.2
      have hb : p + 1 < b := by have := i1.1 b List.mem_cons_self; omega
      show gUp (gUp se (p + 1) _) ((a :: b :: c).getD 1 e) _ q = se q
      have hbb : (a :: b :: c).getD 1 e = b := rfl
      rw [hbb]
      rcases hq with hq | hq
      · rw [gUp_n _ _ (by omega), gUp_n _ _ (by omega)]
      · have hq' : q ∈ c := by simpa using hq
        have a1 := i2.1 q hq'
        rw [gUp_n _ _ (by omega), gUp_n _ _ (by omega)]
theorem seU_congr {g : gr} {row : Nat → Int32} {mm : Nat → Nat} {e p n q : Nat} {se se' : Nat → Nat} (hw : wf mm row 0 e) (hp : p < e) (h : ∀ q, q ∈ (stN row e (e - (p + 1))).drop (pw (row p)) → se' q = se q) (hq : q ∈ stN row e (e - (p + 1))) : seU g (pw (row p)) ((stN row e (e - (p + 1))).getD 1 e) p n se' q = seU g (pw (row p)) ((stN row e (e - (p + 1))).getD 1 e) p n se q := by
  rcases stN_cases hw hp hq with ⟨a, b⟩ | ⟨a, b⟩ | a
  · have h3 : pw (row p) = 1 ∨ 2 ≤ pw (row p) := by omega
    generalize (stN row e (e - (p + 1))).getD 1 e = bb
    rcases h3 with e0 | e0
    · rw [e0, b]
      show gUp se' (p + 1) _ (p + 1) = gUp se (p + 1) _ (p + 1)
      rw [gUp_s, gUp_s]
    · obtain ⟨w, hw'⟩ : ∃ w, pw (row p) = w + 2 := ⟨pw (row p) - 2, by omega⟩
      rw [hw', b]
      show gUp (gUp se' (p + 1) _) bb _ (p + 1) = gUp (gUp se (p + 1) _) bb _ (p + 1)
      by_cases z : p + 1 = bb
      · rw [← z, gUp_s, gUp_s]
      · rw [gUp_n _ _ z, gUp_n _ _ z, gUp_s, gUp_s]
  · rw [a, ← b]
    show gUp _ q _ q = gUp _ q _ q
    rw [gUp_s, gUp_s]
  · rw [seU_keep hw hp (Or.inr a), seU_keep hw hp (Or.inr a)]
    exact h q a
/-- a match whose variables are classes of the graph -/
def mtV (g : gr) (row : Nat → Int32) (e : Nat) (se vt th : Nat → Nat) (p : Nat) : Prop := mtP g row e se vt th p ∧ ∀ i, i < e → et_isv (row i) → th (row i - 97).toNatClampNeg < gC g
/-- the nodes of each class, listed -/
def et_LS (g : gr) (h : Nat → et_MC) : Prop := ∃ (b15 b16 : Nat → Int32) (bg ls : Nat → Nat), h 15 = .inl (0, 40, .inl b15) ∧ h 16 = .inl (0, 41, .inl b16) ∧ (∀ c, c ≤ gC g → b16 c = nI (bg c)) ∧ (∀ i, i < bg (gC g) → b15 i = nI (ls i)) ∧ (∀ c, c < gC g → bg c ≤ bg (c + 1) ∧ bg (c + 1) ≤ bg (gC g)) ∧ bg (gC g) ≤ 40 ∧
  (∀ c, c < gC g → ∀ i, bg c ≤ i → i < bg (c + 1) → ls i < gN g ∧ gH g (ls i) = c) ∧ ∀ n, n < gN g → ∃ i, bg (gH g n) ≤ i ∧ i < bg (gH g n + 1) ∧ ls i = n
/-- what matching from place p on leaves -/
def ftP (g0 : gr) (row : Nat → Int32) (e len : Nat) (y : gx) (ch : Bool) (se vt : Nat → Nat) (p : Nat) (r : et_R) (h h' : Nat → et_MC) : Prop :=
  et_f14 h h' ∧ ∃ (A : List gact) (y' : gx) (ch' : Bool) (se' vt' : Nat → Nat), (∀ a ∈ A, a.1 = se 0 ∧ a.2.1 = sg row len (len - (e + 1)) ∧ mtV g0 row e se vt a.2.2 p) ∧ (∀ q, q < p ∨ q ∈ stN row e (e - p) → se' q = se q) ∧ (∀ v, v < 3 → inF row (nI (97 + v)) p = true → vt' v = vt v) ∧ et_RH y' ch' se' vt' h' ∧
    ((r = .inl (some (.int 1)) ∧ runA 40 A (y, ch) = some (y', ch') ∧ rdI 40 g0 y' ∧ ∀ th, mtV g0 row e se vt th p → ∃ a ∈ A, ∀ v, v < 3 → inF row (nI (97 + v)) e = true → a.2.2 v = th v) ∨
     (r = .inl (some (.int 0)) ∧ gLe g0 y'.1 ∧ gOk 40 y'.1 ∧ ∃ s1 th, runA 40 A (y, ch) = some s1 ∧ rdI 40 g0 s1.1 ∧ mtV g0 row e se vt th p ∧ doA 40 (se 0, sg row len (len - (e + 1)), th) s1 = none))
