/-! ===== texts as numbers; passes ===== -/
def num (t : Nat → Int32) : Nat → Nat
  | 0 => 0
  | k + 1 => num t k * 128 + (t k).toNatClampNeg
theorem num_same {t t' : Nat → Int32} : ∀ {k : Nat}, (∀ j, j < k → t j = t' j) → num t k = num t' k
  | 0, _ => rfl
  | k + 1, h => by rw [num, num, num_same (fun j hj => h j (by omega)), h k (by omega)]
/-- characters -/
def chs (t : Nat → Int32) (k : Nat) : Prop := ∀ j, j < k → 0 ≤ t j ∧ (t j).toNatClampNeg < 128
theorem num_lt {t t' : Nat → Int32} {i : Nat} (he : ∀ j, j < i → t j = t' j) (hl : (t i).toNatClampNeg < (t' i).toNatClampNeg) : ∀ {k : Nat}, i < k → chs t k → num t k < num t' k
  | 0, h, _ => absurd h (Nat.not_lt_zero _)
  | k + 1, h, hc => by
    rw [num, num]
    by_cases e : i = k
    · subst e
      rw [num_same he]
      omega
    · have ih := num_lt he hl (show i < k by omega) (fun j hj => hc j (by omega))
      have := (hc k (by omega)).2
      omega
theorem num_bd {t : Nat → Int32} : ∀ {k : Nat}, chs t k → num t k < 128 ^ k
  | 0, _ => by show 0 < 128 ^ 0; decide
  | k + 1, h => by
    have := num_bd (fun j hj => h j (by omega) : chs t k)
    have := (h k (by omega)).2
    rw [num, Nat.pow_succ]
    omega
theorem num_app {t : Nat → Int32} {a : Nat} : ∀ b, num t (a + b) = num t a * 128 ^ b + num (fun j => t (a + j)) b
  | 0 => by show num t a = num t a * 128 ^ 0 + 0; rw [Nat.pow_zero]; omega
  | b + 1 => by
    rw [← Nat.add_assoc, num, num, num_app b, Nat.pow_succ, Nat.add_mul, Nat.mul_assoc]
    omega
theorem num_inj {t t' : Nat → Int32} : ∀ {k : Nat}, chs t k → chs t' k → num t k = num t' k → ∀ j, j < k → t j = t' j
  | 0, _, _, _ => fun j hj => absurd hj (Nat.not_lt_zero _)
  | k + 1, h, h', e => fun j hj => by
    rw [num, num] at e
    have a := h k (by omega)
    have b := h' k (by omega)
    have e1 : num t k = num t' k := by omega
    have e2 : (t k).toNatClampNeg = (t' k).toNatClampNeg := by omega
    by_cases z : j = k
    · subst z
      have c1 := Int32.le_iff_toInt_le.mp a.1
      have c2 := Int32.le_iff_toInt_le.mp b.1
      have z0 : (0 : Int32).toInt = 0 := rfl
      refine Int32.toInt_inj.mp ?_
      unfold Int32.toNatClampNeg at e2
      omega
    · exact num_inj (fun j hj => h j (by omega)) (fun j hj => h' j (by omega)) e1 j (by omega)
/-- a sign and the texts of its parts -/
theorem num_node {t : Nat → Int32} {a b : Nat} : num t (1 + a + b) = (t 0).toNatClampNeg * 128 ^ (a + b) + num (fun j => t (1 + j)) a * 128 ^ b + num (fun j => t (1 + a + j)) b := by
  rw [num_app, num_app]
  show ((num t 0 * 128 + (t 0).toNatClampNeg) * 128 ^ a + num (fun j => t (1 + j)) a) * 128 ^ b + _ = _
  rw [show num t 0 = 0 from rfl, Nat.zero_mul, Nat.zero_add, Nat.add_mul, Nat.mul_assoc, ← Nat.pow_add]
/-- how many classes are cheaper -/
def rk (v : Nat → tri) (C c : Nat) : Nat := cntB (fun x => decide ((v x).1 < (v c).1)) C
theorem cntB_sub {p q : Nat → Bool} : ∀ {C : Nat}, (∀ x, x < C → p x = true → q x = true) → cntB p C ≤ cntB q C
  | 0, _ => Nat.le_refl _
  | C + 1, h => by
    have ih := cntB_sub (fun x hx => h x (by omega) : ∀ x, x < C → p x = true → q x = true)
    rw [cntB, cntB]
    by_cases e : p C = true
    · rw [if_pos e, if_pos (h C (by omega) e)]; omega
    · rw [if_neg e]; omega
theorem cntB_lt {p q : Nat → Bool} {a : Nat} : ∀ {C : Nat}, (∀ x, x < C → p x = true → q x = true) → a < C → p a = false → q a = true → cntB p C < cntB q C
  | 0, _, h, _, _ => absurd h (Nat.not_lt_zero _)
  | C + 1, h, ha, hp, hq => by
    rw [cntB, cntB]
    by_cases e : a = C
    · subst e
      have := cntB_sub (fun x hx => h x (by omega) : ∀ x, x < a → p x = true → q x = true)
      rw [hp, hq, if_pos rfl, if_neg (by decide)]
      omega
    · have ih := cntB_lt (fun x hx => h x (by omega) : ∀ x, x < C → p x = true → q x = true) (show a < C by omega) hp hq
      by_cases z : p C = true
      · rw [if_pos z, if_pos (h C (by omega) z)]; omega
      · rw [if_neg z]; omega
theorem cntB_all : ∀ C : Nat, cntB (fun _ => true) C = C
  | 0 => rfl
  | C + 1 => by rw [cntB, cntB_all C]; rfl
theorem rk_lt {v : Nat → tri} {C c : Nat} (hc : c < C) : rk v C c < C := by
  have := cntB_lt (p := fun x => decide ((v x).1 < (v c).1)) (q := fun _ => true) (a := c) (fun _ _ _ => rfl) hc (decide_eq_false (by omega)) rfl
  rw [cntB_all] at this
  exact this
theorem rk_part {v : Nat → tri} {C c x : Nat} (hx : x < C) (h : (v x).1 < (v c).1) : rk v C x < rk v C c :=
  cntB_lt (a := x) (fun y _ hy => decide_eq_true (Nat.lt_trans (of_decide_eq_true hy) h)) hx (decide_eq_false (by omega)) (decide_eq_true h)
