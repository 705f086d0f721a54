/-! ===== the texts of the best terms, the short ones first ===== -/
theorem i32_lt {a b : Int32} (h0 : 0 ≤ a) (h : a < b) : a.toNatClampNeg < b.toNatClampNeg := by
  have c1 := Int32.le_iff_toInt_le.mp h0
  have c2 := Int32.lt_iff_toInt_lt.mp h
  have z0 : (0 : Int32).toInt = 0 := rfl
  unfold Int32.toNatClampNeg
  omega
def opN (g : gr) (pr : Int32 → Nat) (v : Nat → tri) (n : Nat) : Prop := pB g pr (v2 v) n = v2 v (gH g n)
def spC (g : gr) (pr : Int32 → Nat) (v : Nat → tri) (l i c : Nat) (t : Nat → Int32) : Prop :=
  ((v c).1 ≤ kM → (v c).2.1 < l → chs t (v c).2.1 ∧ num t (v c).2.1 = (v c).2.2) ∧
  ((v c).1 ≤ kM → (v c).2.1 = l → (t 0 = 127 ∧ ∀ n, n < i → gH g n = c → ¬ opN g pr v n) ∨ (chs t l ∧ (∀ n, n < i → gH g n = c → opN g pr v n → num t l ≤ (cB g pr v n).2.2) ∧ ∃ n, n < i ∧ gH g n = c ∧ opN g pr v n ∧ num t l = (cB g pr v n).2.2)) ∧
  ((v c).1 ≤ kM → l < (v c).2.1 → t 0 = 127)
theorem len_pos {g : gr} {pr : Int32 → Nat} {v : Nat → tri} (hv : bst g pr v) {c : Nat} (hc : c < gC g) (h : (v c).1 ≤ kM) : 1 ≤ (v c).2.1 := by
  obtain ⟨n, -, -, n3⟩ := hv.2.1 c hc h
  rw [n3]
  show 1 ≤ 1 + _ + _
  omega
theorem sp_init {g : gr} {pr : Int32 → Nat} {v : Nat → tri} (hv : bst g pr v) {c : Nat} (hc : c < gC g) {t : Nat → Int32} (ht : t 0 = 127) : spC g pr v 1 0 c t :=
  ⟨fun h1 h2 => by have := len_pos hv hc h1; omega, fun _ _ => Or.inl ⟨ht, fun n h => absurd h (Nat.not_lt_zero _)⟩, fun _ _ => ht⟩
theorem sp_skip {g : gr} {pr : Int32 → Nat} {v : Nat → tri} {l i c : Nat} {t : Nat → Int32} (h : spC g pr v l i c t) (hn : (v c).1 ≤ kM → (v c).2.1 = l → gH g i = c → ¬ opN g pr v i) : spC g pr v l (i + 1) c t := by
  obtain ⟨h1, h2, h3⟩ := h
  refine ⟨h1, fun a b => ?_, h3⟩
  rcases h2 a b with ⟨x, y⟩ | ⟨x, y, n, n1, n2⟩
  · refine Or.inl ⟨x, fun n z1 z2 => ?_⟩
    by_cases e : n = i
    · subst e; exact hn a b z2
    · exact y n (by omega) z2
  · refine Or.inr ⟨x, fun n z1 z2 z3 => ?_, n, by omega, n2⟩
    by_cases e : n = i
    · subst e; exact absurd z3 (hn a b z2)
    · exact y n (by omega) z2 z3
theorem sp_put {g : gr} {pr : Int32 → Nat} {v : Nat → tri} {l i : Nat} {t tr t' : Nat → Int32} (h : spC g pr v l i (gH g i) t) (hl : (v (gH g i)).2.1 = l) (hop : opN g pr v i) (c1 : chs tr l) (c2 : num tr l = (cB g pr v i).2.2) (ht : ∀ j, j < l → t' j = tr j) (hf : (v (gH g i)).1 ≤ kM) (hb : ∃ k, k < l ∧ (∀ j, j < k → tr j = t j) ∧ tr k < t k) : spC g pr v l (i + 1) (gH g i) t' := by
  obtain ⟨h1, h2, h3⟩ := h
  have e' : num t' l = num tr l := num_same ht
  have ch' : chs t' l := fun j hj => by rw [ht j hj]; exact c1 j hj
  refine ⟨fun a b => by omega, fun a b => Or.inr ⟨ch', fun n z1 z2 z3 => ?_, i, by omega, rfl, hop, e'.trans c2⟩, fun a b => by omega⟩
  by_cases e : n = i
  · subst e; rw [e', c2]; exact Nat.le_refl _
  · rcases h2 hf hl with ⟨x, y⟩ | ⟨x, y, -⟩
    · exact absurd z3 (y n (by omega) z2)
    · have := y n (by omega) z2 z3
      obtain ⟨k, k1, k2, k3⟩ := hb
      have lt := num_lt k2 (i32_lt (c1 k k1).1 k3) k1 c1
      rw [e']
      omega
theorem sp_no {g : gr} {pr : Int32 → Nat} {v : Nat → tri} {l i : Nat} {t tr : Nat → Int32} (h : spC g pr v l i (gH g i) t) (hl : (v (gH g i)).2.1 = l) (h1l : 1 ≤ l) (c3 : (tr 0).toNatClampNeg < 127) (c2 : num tr l = (cB g pr v i).2.2) (hf : (v (gH g i)).1 ≤ kM) (hb : (∀ j, j < l → tr j = t j) ∨ ∃ k, k < l ∧ (∀ j, j < k → tr j = t j) ∧ t k < tr k) : spC g pr v l (i + 1) (gH g i) t := by
  obtain ⟨h1, h2, h3⟩ := h
  have h127 : (127 : Int32).toNatClampNeg = 127 := rfl
  refine ⟨h1, fun a b => ?_, h3⟩
  rcases h2 hf hl with ⟨x, y⟩ | ⟨x, y, n, n1, n2⟩
  · exfalso
    rcases hb with z | ⟨k, k1, k2, k3⟩
    · have := z 0 (by omega)
      rw [this, x, h127] at c3
      omega
    · by_cases e : k = 0
      · subst e
        rw [x] at k3
        have := i32_lt (a := 127) (by decide) k3
        omega
      · have := k2 0 (by omega)
        rw [this, x, h127] at c3
        omega
  · refine Or.inr ⟨x, fun m z1 z2 z3 => ?_, n, by omega, n2⟩
    by_cases e : m = i
    · subst e
      rw [← c2]
      rcases hb with z | ⟨k, k1, k2, k3⟩
      · rw [num_same z]; exact Nat.le_refl _
      · exact Nat.le_of_lt (num_lt (fun j hj => (k2 j hj).symm) (i32_lt (x k k1).1 k3) k1 x)
    · exact y m (by omega) z2 z3
theorem opN_of {g : gr} {pr : Int32 → Nat} {v : Nat → tri} {n : Nat} (h : v (gH g n) = cB g pr v n) : opN g pr v n := by
  unfold opN
  rw [pB_v2, v2, h]
theorem sp_next {g : gr} {pr : Int32 → Nat} {v : Nat → tri} (hv : bst g pr v) {l c : Nat} (hc : c < gC g) {t : Nat → Int32} (h : spC g pr v l (gN g) c t) : spC g pr v (l + 1) 0 c t := by
  obtain ⟨h1, h2, h3⟩ := h
  refine ⟨fun a b => ?_, fun a b => Or.inl ⟨h3 a (by omega), fun n z => absurd z (Nat.not_lt_zero _)⟩, fun a b => h3 a (by omega)⟩
  by_cases e : (v c).2.1 = l
  · obtain ⟨n, n1, n2, n3⟩ := hv.2.1 c hc a
    have on : opN g pr v n := opN_of (by rw [n2]; exact n3)
    rcases h2 a e with ⟨-, y⟩ | ⟨x, y, m, m1, m2, m3, m4⟩
    · exact absurd on (y n n1 n2)
    · rw [e]
      refine ⟨x, Nat.le_antisymm ?_ ?_⟩
      · rw [n3]; exact y n n1 n2 on
      · rw [m4]
        have hm : pB g pr (v2 v) m = v2 v (gH g m) := m3
        rw [pB_v2, m2] at hm
        have e1 : (cB g pr v m).1 = (v c).1 := (Prod.mk.inj hm).1
        have e2 : (cB g pr v m).2.1 = (v c).2.1 := (Prod.mk.inj hm).2
        have := hv.1 m m1 (by rw [e1]; exact a)
        rw [m2] at this
        unfold tLe at this
        omega
  · exact h1 a (by omega)
/-- a part of a best term is final before the term is made -/
theorem op_part {g : gr} {pr : Int32 → Nat} {v : Nat → tri} {n : Nat} (hop : opN g pr v n) (hf : (v (gH g n)).1 ≤ kM) {b : Nat} (hb : gL g n = b + 1 ∨ gR g n = b + 1) : (v b).1 ≤ kM ∧ (v b).2.1 < (v (gH g n)).2.1 := by
  have h : pB g pr (v2 v) n = v2 v (gH g n) := hop
  rw [pB_v2] at h
  have e1 : (cB g pr v n).1 = (v (gH g n)).1 := (Prod.mk.inj h).1
  have e2 : (cB g pr v n).2.1 = (v (gH g n)).2.1 := (Prod.mk.inj h).2
  have f1 : (cB g pr v n).1 = pr (gS g n) + (cA v (gL g n)).1 + (cA v (gR g n)).1 := rfl
  have f2 : (cB g pr v n).2.1 = 1 + (cA v (gL g n)).2.1 + (cA v (gR g n)).2.1 := rfl
  have hb' : (cA v (b + 1)) = v b := rfl
  rcases hb with z | z
  · rw [z, hb'] at f1 f2; omega
  · rw [z, hb'] at f1 f2; omega
