/-! ===== the model's passes ===== -/
def mbI (g : gr) (pr : Int32 → Nat) (v : Nat → tri) (M i : Nat) (b : Bool) (w : Nat → tri) : Prop :=
  (∀ c, c < gC g → tOk (w c)) ∧ (∀ c, c < gC g → (w c).1 ≤ kM ∨ w c = (kM + 1, 0, 0)) ∧ (∀ c, c < gC g → tLe (v c) (w c)) ∧ (b = false → ∀ n, n < i → (cB g pr w n).1 ≤ kM → tLe (w (gH g n)) (cB g pr w n)) ∧ tSum w (gC g) ≤ M ∧ (b = true → tSum w (gC g) < M)
theorem mb_keep {g : gr} {pr : Int32 → Nat} {v w : Nat → tri} {M i : Nat} {b : Bool} (I : mbI g pr v M i b w) (h : (cB g pr w i).1 ≤ kM → tLe (w (gH g i)) (cB g pr w i)) : mbI g pr v M (i + 1) b w := by
  obtain ⟨i1, i2, i3, i4, i5, i6⟩ := I
  refine ⟨i1, i2, i3, fun hb n hn hk => ?_, i5, i6⟩
  by_cases e : n = i
  · subst e; exact h hk
  · exact i4 hb n (by omega) hk
theorem mb_put {B : Nat} {g : gr} {pr : Int32 → Nat} {v w : Nat → tri} {M i : Nat} {b : Bool} (ok : gOk B g) (hp : ∀ n, n < gN g → 1 ≤ pr (gS g n)) (hs : ∀ n, n < gN g → (gS g n).toNatClampNeg < 128) (hv : bst g pr v) (I : mbI g pr v M i b w) (hi : i < gN g) (hk : (cB g pr w i).1 ≤ kM) (hn : ¬ tLe (w (gH g i)) (cB g pr w i)) : mbI g pr v M (i + 1) true (gUp w (gH g i) (cB g pr w i)) := by
  obtain ⟨i1, i2, i3, i4, i5, i6⟩ := I
  obtain ⟨o1, o2, o3⟩ := ok.2.2 i hi
  have t1 := comb_ok (hp i hi) (hs i hi) (cA_ok i1 o2) (cA_ok i1 o3) hk
  have t2 : tLe (cB g pr w i) (w (gH g i)) := by
    rcases tLe.tot (w (gH g i)) (cB g pr w i) with z | z
    · exact absurd z hn
    · exact z.1
  have lt := tSum_lt (v := w) o1 t1 (i1 _ o1) t2 hn
  have le : tLe (v (gH g i)) (cB g pr w i) := by
    have h1 : tLe (cB g pr v i) (cB g pr w i) := cB_le ok i3 hi
    exact (hv.1 i hi (Nat.le_trans h1.c hk)).trans h1
  have lt2 : tSum (gUp w (gH g i) (cB g pr w i)) (gC g) < M := Nat.lt_of_lt_of_le lt i5
  refine ⟨fun c hc => ?_, fun c hc => ?_, fun c hc => ?_, (fun h => by cases h), Nat.le_of_lt lt2, fun _ => lt2⟩
  · by_cases e : c = gH g i
    · rw [e, gUp_s]; exact t1
    · rw [gUp_n _ _ e]; exact i1 c hc
  · by_cases e : c = gH g i
    · rw [e, gUp_s]; exact Or.inl hk
    · rw [gUp_n _ _ e]; exact i2 c hc
  · by_cases e : c = gH g i
    · rw [e, gUp_s]; exact le
    · rw [gUp_n _ _ e]; exact i3 c hc
theorem mb_0 {g : gr} {pr : Int32 → Nat} {v : Nat → tri} (hv : bst g pr v) : mbI g pr v (tSum (fun _ => (kM + 1, 0, 0)) (gC g)) 0 false (fun _ => (kM + 1, 0, 0)) := by
  refine ⟨fun c _ => ⟨Nat.le_refl _, Nat.zero_le _, fun _ => by show 0 < 128 ^ 0; decide, fun _ => rfl⟩, fun c _ => Or.inr rfl, fun c hc => ?_, fun _ n h => absurd h (Nat.not_lt_zero _), Nat.le_refl _, (fun h => by cases h)⟩
  rcases hv.2.2 c hc with h | h
  · exact Or.inl (by show (v c).1 < kM + 1; omega)
  · rw [h]; exact tLe.refl _
theorem mb_again {g : gr} {pr : Int32 → Nat} {v w : Nat → tri} {M i : Nat} {b : Bool} (I : mbI g pr v M i b w) : mbI g pr v (tSum w (gC g)) 0 false w :=
  ⟨I.1, I.2.1, I.2.2.1, fun _ n h => absurd h (Nat.not_lt_zero _), Nat.le_refl _, (fun h => by cases h)⟩
theorem mb_end {B : Nat} {g : gr} {pr : Int32 → Nat} {v w : Nat → tri} {M : Nat} (ok : gOk B g) (hp : ∀ n, n < gN g → 1 ≤ pr (gS g n)) (hv : bst g pr v) (I : mbI g pr v M (gN g) false w) : ∀ c, c < gC g → w c = v c :=
  bst_fix ok hp hv I.2.2.1 (I.2.2.2.1 rfl) I.2.1
