/-! ===== terms and their classes on both sides ===== -/
theorem gLook_iso {σ ρ m : Nat → Nat} {g g' : gr} {f : Nat → Int32} {fr to : Nat} (I : gIso σ ρ g g') (G : gG 40 g) (G' : gG 40 g') (hw : wf m f fr to) (nv : ∀ j, fr ≤ j → j < to → ¬ et_isv (f j)) : gLook (gI g') (sg f to (to - fr)) = up σ (gLook (gI g) (sg f to (to - fr))) := by
  have h := gIso_look (lim := 40) (lim' := 40) (vs := fun _ => 0) (vs' := fun _ => 0) I G G' hw (fun i a b c => absurd c (nv i a b))
  unfold gLook
  rw [h]
  cases hg : gEval false 40 (fun _ => 0) (sg f to (to - fr)) (gI g) with
  | none => rfl
  | some q =>
    obtain ⟨stk, y⟩ := q
    have := (gEval_nw (B := 40) (g := g) (Nat.le_refl _) hw (fun i a b c => absurd c (nv i a b)) G (gNw.refl _) (Nat.le_refl _) hg).2.2.1
    rw [show to - (to - fr) = fr by have := hw.1; omega, hw.2.1] at this
    match stk, this with
    | [c], _ => rfl
def cntB (p : Nat → Bool) : Nat → Nat
  | 0 => 0
  | k + 1 => cntB p k + (if p k = true then 1 else 0)
theorem cntB_cut {p : Nat → Bool} {m : Nat} (hp : p m = true) : ∀ {N : Nat}, m < N → cntB (fun k => p k && decide (k ≠ m)) N + 1 = cntB p N
  | 0, h => absurd h (Nat.not_lt_zero _)
  | N + 1, h => by
    have same : ∀ K, K ≤ m → cntB (fun k => p k && decide (k ≠ m)) K = cntB p K := by
      intro K
      induction K with
      | zero => intro _; rfl
      | succ K ih =>
        intro hK
        rw [cntB, cntB, ih (by omega)]
        congr 1
        have : decide (K ≠ m) = true := decide_eq_true (by omega)
        simp only [this, Bool.and_true]
    by_cases e : m = N
    · subst e
      rw [cntB, cntB, same m (Nat.le_refl _), if_pos hp, if_neg (by simp)]
    · have ih := cntB_cut hp (show m < N by omega)
      rw [cntB, cntB]
      have : decide (N ≠ m) = true := decide_eq_true (by omega)
      simp only [this, Bool.and_true]
      omega
theorem cntB_le : ∀ {N N' : Nat} {p p' : Nat → Bool} {f : Nat → Nat}, (∀ n, n < N → p n = true → f n < N' ∧ p' (f n) = true) → (∀ a b, a < N → b < N → p a = true → p b = true → f a = f b → a = b) → cntB p N ≤ cntB p' N'
  | 0, N', p, p', f, _, _ => Nat.zero_le _
  | N + 1, N', p, p', f, h, inj => by
    rw [cntB]
    by_cases e : p N = true
    · obtain ⟨h1, h2⟩ := h N (by omega) e
      have := cntB_le (N := N) (N' := N') (p := p) (p' := fun k => p' k && decide (k ≠ f N)) (f := f) (fun n hn hp => ⟨(h n (by omega) hp).1, by
        have : decide (f n ≠ f N) = true := decide_eq_true (fun z => by have := inj n N (by omega) (by omega) hp e z; omega)
        show (p' (f n) && decide (f n ≠ f N)) = true
        rw [(h n (by omega) hp).2, this]; rfl⟩) (fun a b ha hb => inj a b (by omega) (by omega))
      have := cntB_cut h2 h1
      rw [if_pos e]
      omega
    · rw [if_neg e, Nat.add_zero]
      exact cntB_le (fun n hn => h n (by omega)) (fun a b ha hb => inj a b (by omega) (by omega))
theorem gCnt_B {g : gr} {c : Nat} : ∀ k, gCntN g c k = cntB (fun n => decide (gH g n = c)) k
  | 0 => rfl
  | k + 1 => by
    rw [gCntN, cntB, gCnt_B k]
    by_cases e : gH g k = c <;> simp [e]
theorem gCnt_le {σ ρ : Nat → Nat} {g g' : gr} {c : Nat} (I : gIso σ ρ g g') (ok : gOk 40 g) (dis : gDis g) : gCnt g c ≤ gCnt g' (σ c) := by
  unfold gCnt
  rw [gCnt_B, gCnt_B]
  have ex : ∀ n, ∃ n', n < gN g → n' < gN g' ∧ gIm σ g n g' n' := fun n => by
    by_cases hn : n < gN g
    · obtain ⟨n', h1, h2⟩ := I.1.2 n hn
      exact ⟨n', fun _ => ⟨h1, h2⟩⟩
    · exact ⟨0, fun z => absurd z hn⟩
  refine cntB_le (f := fun n => Classical.choose (ex n)) (fun n hn hp => ?_) (fun i j hi hj _ _ e => ?_)
  · obtain ⟨s1, s2, s3, s4, s5⟩ := Classical.choose_spec (ex n) hn
    exact ⟨s1, decide_eq_true (by rw [s5, of_decide_eq_true hp])⟩
  · have a := (Classical.choose_spec (ex i) hi).2
    have b := (Classical.choose_spec (ex j) hj).2
    have e : Classical.choose (ex i) = Classical.choose (ex j) := e
    rw [← e] at b
    obtain ⟨a1, a2, a3, -⟩ := a
    obtain ⟨b1, b2, b3, -⟩ := b
    obtain ⟨-, o1, o2⟩ := ok.2.2 i hi
    obtain ⟨-, o3, o4⟩ := ok.2.2 j hj
    exact dis i j hi hj (a1.symm.trans b1) (up_inj2 I.inj o1 o3 (a2.symm.trans b2)) (up_inj2 I.inj o2 o4 (a3.symm.trans b3))
theorem gCnt_iso {σ ρ : Nat → Nat} {g g' : gr} {c : Nat} (I : gIso σ ρ g g') (G : gG 40 g) (G' : gG 40 g') (hc : c < gC g) : gCnt g c = gCnt g' (σ c) := by
  have a := gCnt_le (c := c) I G.1 G.2.1
  have b := gCnt_le (c := σ c) I.symm G'.1 G'.2.1
  rw [I.2.2.1 c hc] at b
  omega
theorem one_ok {C fr to : Nat} {f : Nat → Int32} {m : Nat → Nat} (hw : wf m f fr to) (nv : ∀ j, fr ≤ j → j < to → ¬ et_isv (f j)) : iOk C (sg f to (to - fr), fun _ => 0) := ⟨f, fr, to, m, rfl, hw, fun i a b c => absurd c (nv i a b)⟩
theorem cor_nv {σ : Nat → Nat} {L : List git} (h : ∀ it ∈ L, ∀ c ∈ it.1, ¬ et_isv c) : gCor σ L L := fun it hi => ⟨it, hi, rfl, fun c hc hv => absurd hv (h it hi c hc)⟩
theorem sg_nv {f : Nat → Int32} {fr to : Nat} (hl : fr ≤ to) (nv : ∀ j, fr ≤ j → j < to → ¬ et_isv (f j)) : ∀ c ∈ sg f to (to - fr), ¬ et_isv c := fun c hc => by
  obtain ⟨j, j1, j2, rfl⟩ := sg_mem (by omega) hc
  exact nv j (by omega) j2
/-- add -/
theorem add_full {σ ρ m : Nat → Nat} {g g' : gr} {f : Nat → Int32} {fr to : Nat} {stk : List Nat} {y' : gx} (I : gIso σ ρ g g') (G : gG 40 g) (G' : gG 40 g') (hw : wf m f fr to) (nv : ∀ j, fr ≤ j → j < to → ¬ et_isv (f j)) (h60 : to ≤ 60) (h : gEval true 40 (fun _ => 0) (sg f to (to - fr)) (gI g) = none) (h' : gEval true 1000 (fun _ => 0) (sg f to (to - fr)) (gI g') = some (stk, y')) : 40 < gN y'.1 := by
  obtain ⟨stk2, y, e1, e2, e3, e4⟩ := gEval_tot (lim := 40) (lim' := 1000) (vs := fun _ => 0) (w := sg f to (to - fr)) (x := gI g) (by rw [sg_length]; have := G.1.1; show gN g + _ ≤ _; omega)
  have v1 : evs 1000 [(sg f to (to - fr), fun _ => 0)] g y.1 := evs.cons (x := gI g) (it := (sg f to (to - fr), fun _ => 0)) rfl e1 (evs.nil _)
  have v2 : evs 1000 [(sg f to (to - fr), fun _ => 0)] g' y'.1 := evs.cons (x := gI g') (it := (sg f to (to - fr), fun _ => 0)) rfl h' (evs.nil _)
  have := evs_le (B := 1000) I (Nat.le_refl _) (G.mono (by omega)) (G'.mono (by omega)) v1 v2 (fun it hi => by obtain rfl := List.mem_singleton.mp hi; exact one_ok hw nv) (fun it hi => by obtain rfl := List.mem_singleton.mp hi; exact one_ok hw nv) (cor_nv fun it hi => by obtain rfl := List.mem_singleton.mp hi; exact sg_nv (Nat.le_of_lt hw.1) nv)
  rcases e4 with z | z | z
  · rw [z] at h; cases h
  · omega
  · omega
theorem add_iso {σ ρ m : Nat → Nat} {g g' : gr} {f : Nat → Int32} {fr to : Nat} {stk stk' : List Nat} {y y' : gx} (I : gIso σ ρ g g') (G : gG 40 g) (G' : gG 40 g') (hw : wf m f fr to) (nv : ∀ j, fr ≤ j → j < to → ¬ et_isv (f j)) (h : gEval true 40 (fun _ => 0) (sg f to (to - fr)) (gI g) = some (stk, y)) (h' : gEval true 1000 (fun _ => 0) (sg f to (to - fr)) (gI g') = some (stk', y')) : gN y.1 = gN y'.1 ∧ gG 40 y.1 ∧ gG 40 y'.1 ∧ ∃ τ μ, gIso τ μ y.1 y'.1 := by
  have h9 := gEval_mono (lim' := 1000) (by omega) h
  have v1 : evs 1000 [(sg f to (to - fr), fun _ => 0)] g y.1 := evs.cons (x := gI g) (it := (sg f to (to - fr), fun _ => 0)) rfl h9 (evs.nil _)
  have v2 : evs 1000 [(sg f to (to - fr), fun _ => 0)] g' y'.1 := evs.cons (x := gI g') (it := (sg f to (to - fr), fun _ => 0)) rfl h' (evs.nil _)
  have hi : ∀ {C : Nat} (it : git), it ∈ [((sg f to (to - fr), fun _ => 0) : git)] → iOk C it := fun it hi => by obtain rfl := List.mem_singleton.mp hi; exact one_ok hw nv
  have hc : ∀ {σ : Nat → Nat}, gCor σ [((sg f to (to - fr), fun _ => 0) : git)] [(sg f to (to - fr), fun _ => 0)] := cor_nv fun it hi => by obtain rfl := List.mem_singleton.mp hi; exact sg_nv (Nat.le_of_lt hw.1) nv
  have G9 := G.mono (B' := 1000) (by omega)
  have G9' := G'.mono (B' := 1000) (by omega)
  obtain ⟨τ, μ, J, -⟩ := evs_iso (B := 1000) I (Nat.le_refl _) G9 G9' v1 v2 hi hi hc hc
  have q1 := (gEval_nw (B := 40) (g := g) (Nat.le_refl _) hw (fun i a b c => absurd c (nv i a b)) G (gNw.refl _) (Nat.le_refl _) h).1
  have q2 := (evs_g (g := g') (Nat.le_refl 1000) v2 G9' (gNw.refl _) hi).1
  have n := J.n q1 q2
  exact ⟨n, q1, q2.cut (by have := q1.1.1; omega), τ, μ, J⟩
/-- unite -/
theorem two_full {σ ρ m1 m2 : Nat → Nat} {g g' : gr} {f : Nat → Int32} {e to : Nat} {stk stk1 stk2 : List Nat} {x1 y1 y2 : gx} (I : gIso σ ρ g g') (G : gG 40 g) (G' : gG 40 g') (hw1 : wf m1 f 0 e) (hw2 : wf m2 f (e + 1) to) (nv1 : ∀ j, j < e → ¬ et_isv (f j)) (nv2 : ∀ j, e < j → j < to → ¬ et_isv (f j)) (h60 : to ≤ 60) (h1 : gEval true 40 (fun _ => 0) (sg f e (e - 0)) (gI g) = some (stk, x1)) (h2 : gEval true 40 (fun _ => 0) (sg f to (to - (e + 1))) x1 = none) (h3 : gEval true 1000 (fun _ => 0) (sg f e (e - 0)) (gI g') = some (stk1, y1)) (h4 : gEval true 1000 (fun _ => 0) (sg f to (to - (e + 1))) y1 = some (stk2, y2)) : 40 < gN y2.1 := by
  have q1 := (gEval_nw (B := 40) (g := g) (Nat.le_refl _) hw1 (fun i a b c => absurd c (nv1 i b)) G (gNw.refl _) (Nat.le_refl _) h1).1
  obtain ⟨stk3, y, e1, e2, e3, e4⟩ := gEval_tot (lim := 40) (lim' := 1000) (vs := fun _ => 0) (w := sg f to (to - (e + 1))) (x := x1) (by rw [sg_length]; have := q1.1.1; omega)
  have h9 := gEval_mono (lim' := 1000) (by omega) h1
  have v1 : evs 1000 [(sg f e (e - 0), fun _ => 0), (sg f to (to - (e + 1)), fun _ => 0)] g y.1 := evs.cons (x := gI g) (it := (sg f e (e - 0), fun _ => 0)) rfl h9 (evs.cons (it := (sg f to (to - (e + 1)), fun _ => 0)) rfl e1 (evs.nil _))
  have v2 : evs 1000 [(sg f e (e - 0), fun _ => 0), (sg f to (to - (e + 1)), fun _ => 0)] g' y2.1 := evs.cons (x := gI g') (it := (sg f e (e - 0), fun _ => 0)) rfl h3 (evs.cons (it := (sg f to (to - (e + 1)), fun _ => 0)) rfl h4 (evs.nil _))
  have hi : ∀ {C : Nat} (it : git), it ∈ [((sg f e (e - 0), fun _ => 0) : git), (sg f to (to - (e + 1)), fun _ => 0)] → iOk C it := fun it hi => by
    rcases List.mem_cons.mp hi with rfl | hi
    · exact one_ok hw1 (fun j _ b => nv1 j b)
    · obtain rfl := List.mem_singleton.mp hi; exact one_ok hw2 (fun j a b => nv2 j a b)
  have hc : ∀ {σ : Nat → Nat}, gCor σ [((sg f e (e - 0), fun _ => 0) : git), (sg f to (to - (e + 1)), fun _ => 0)] [(sg f e (e - 0), fun _ => 0), (sg f to (to - (e + 1)), fun _ => 0)] := cor_nv fun it hi => by
    rcases List.mem_cons.mp hi with rfl | hi
    · exact sg_nv (Nat.zero_le _) (fun j _ b => nv1 j b)
    · obtain rfl := List.mem_singleton.mp hi; exact sg_nv (Nat.le_of_lt hw2.1) (fun j a b => nv2 j a b)
  have := evs_le (B := 1000) I (Nat.le_refl _) (G.mono (by omega)) (G'.mono (by omega)) v1 v2 hi hi hc
  rcases e4 with z | z | z
  · rw [z] at h2; cases h2
  · omega
  · omega
theorem two_iso {σ ρ m1 m2 : Nat → Nat} {g g' h h' : gr} {f : Nat → Int32} {e to a b a' b' : Nat} {x1 x2 y1 y2 : gx} (I : gIso σ ρ g g') (G : gG 40 g) (G' : gG 40 g') (hw1 : wf m1 f 0 e) (hw2 : wf m2 f (e + 1) to) (nv1 : ∀ j, j < e → ¬ et_isv (f j)) (nv2 : ∀ j, e < j → j < to → ¬ et_isv (f j)) (h1 : gEval true 40 (fun _ => 0) (sg f e (e - 0)) (gI g) = some ([a], x1)) (h2 : gEval true 40 (fun _ => 0) (sg f to (to - (e + 1))) x1 = some ([b], x2)) (h3 : gEval true 1000 (fun _ => 0) (sg f e (e - 0)) (gI g') = some ([a'], y1)) (h4 : gEval true 1000 (fun _ => 0) (sg f to (to - (e + 1))) y1 = some ([b'], y2)) (Q : gQuot x2.1 (fun u v => u = a ∧ v = b) h) (Q' : gQuot y2.1 (fun u v => u = a' ∧ v = b') h') : gN x2.1 = gN y2.1 ∧ gG 40 h ∧ gG 40 h' ∧ ∃ τ μ, gIso τ μ h h' := by
  have k1 := gEval_mono (lim' := 1000) (by omega) h1
  have k2 := gEval_mono (lim' := 1000) (by omega) h2
  have v1 : evs 1000 [(sg f e (e - 0), fun _ => 0), (sg f to (to - (e + 1)), fun _ => 0)] g x2.1 := evs.cons (x := gI g) (it := (sg f e (e - 0), fun _ => 0)) rfl k1 (evs.cons (it := (sg f to (to - (e + 1)), fun _ => 0)) rfl k2 (evs.nil _))
  have v2 : evs 1000 [(sg f e (e - 0), fun _ => 0), (sg f to (to - (e + 1)), fun _ => 0)] g' y2.1 := evs.cons (x := gI g') (it := (sg f e (e - 0), fun _ => 0)) rfl h3 (evs.cons (it := (sg f to (to - (e + 1)), fun _ => 0)) rfl h4 (evs.nil _))
  have hi : ∀ {C : Nat} (it : git), it ∈ [((sg f e (e - 0), fun _ => 0) : git), (sg f to (to - (e + 1)), fun _ => 0)] → iOk C it := fun it hi => by
    rcases List.mem_cons.mp hi with rfl | hi
    · exact one_ok hw1 (fun j _ b => nv1 j b)
    · obtain rfl := List.mem_singleton.mp hi; exact one_ok hw2 (fun j a b => nv2 j a b)
  have hc : ∀ {σ : Nat → Nat}, gCor σ [((sg f e (e - 0), fun _ => 0) : git), (sg f to (to - (e + 1)), fun _ => 0)] [(sg f e (e - 0), fun _ => 0), (sg f to (to - (e + 1)), fun _ => 0)] := cor_nv fun it hi => by
    rcases List.mem_cons.mp hi with rfl | hi
    · exact sg_nv (Nat.zero_le _) (fun j _ b => nv1 j b)
    · obtain rfl := List.mem_singleton.mp hi; exact sg_nv (Nat.le_of_lt hw2.1) (fun j a b => nv2 j a b)
  have G9 := G.mono (B' := 1000) (by omega)
  have G9' := G'.mono (B' := 1000) (by omega)
  obtain ⟨τ, μ, J, -⟩ := evs_iso (B := 1000) I (Nat.le_refl _) G9 G9' v1 v2 hi hi hc hc
  have q1 := (gEval_nw (B := 40) (g := g) (Nat.le_refl _) hw1 (fun i a b c => absurd c (nv1 i b)) G (gNw.refl _) (Nat.le_refl _) h1).1
  obtain ⟨q2, -, -, -, qb⟩ := gEval_nw (B := 40) (g := x1.1) (Nat.le_refl _) hw2 (fun i a b c => absurd c (nv2 i a b)) q1 (gNw.refl _) (Nat.le_refl _) h2
  have q0 := (evs_g (g := g') (Nat.le_refl 1000) v2 G9' (gNw.refl _) hi).1
  have n := J.n q2 q0
  have q3 : gG 40 y2.1 := q0.cut (by have := q2.1.1; omega)
  have p1 := (gEval_nw (B := 1000) (g := g') (Nat.le_refl _) hw1 (fun i a b c => absurd c (nv1 i b)) G9' (gNw.refl _) (Nat.le_refl _) h3).1
  have l2 := gEval_le (B := 40) (Nat.le_refl _) hw2 (fun i a b c => absurd c (nv2 i a b)) q1 (Nat.le_refl _) h2
  have l4 := gEval_le (B := 1000) (Nat.le_refl _) hw2 (fun i a b c => absurd c (nv2 i a b)) p1 (Nat.le_refl _) h4
  have f1 := gEval_found (lim' := 0) (B := 40) (g := x2.1) (Nat.le_refl _) hw1 (fun i a b c => absurd c (nv1 i b)) G q2.2.1 _ (Nat.le_refl _) _ _ h1 l2
  have f2 := gEval_found (lim' := 0) (B := 40) (g := x2.1) (Nat.le_refl _) hw2 (fun i a b c => absurd c (nv2 i a b)) q1 q2.2.1 _ (Nat.le_refl _) _ _ h2 (gLe.refl _)
  have f3 := gEval_found (lim' := 0) (B := 1000) (g := y2.1) (Nat.le_refl _) hw1 (fun i a b c => absurd c (nv1 i b)) G9' q3.2.1 _ (Nat.le_refl _) _ _ h3 l4
  have f4 := gEval_found (lim' := 0) (B := 1000) (g := y2.1) (Nat.le_refl _) hw2 (fun i a b c => absurd c (nv2 i a b)) p1 q3.2.1 _ (Nat.le_refl _) _ _ h4 (gLe.refl _)
  have t1 := gEval_hom (lim' := 0) (vs' := fun _ => 0) J.1 q2 q3.2.1 hw1 (fun i a b c => absurd c (nv1 i b)) _ (Nat.le_refl _) _ _ f1
  have t2 := gEval_hom (lim' := 0) (vs' := fun _ => 0) J.1 q2 q3.2.1 hw2 (fun i a b c => absurd c (nv2 i a b)) _ (Nat.le_refl _) _ _ f2
  have ea : a' = τ a := by rw [t1] at f3; simpa using f3.symm
  have eb : b' = τ b := by rw [t2] at f4; simpa using f4.symm
  have ha : a < gC x2.1 := Nat.lt_of_lt_of_le ((gEval_nw (B := 40) (g := g) (Nat.le_refl _) hw1 (fun i a b c => absurd c (nv1 i b)) G (gNw.refl _) (Nat.le_refl _) h1).2.2.2.2 a (List.mem_singleton.mpr rfl)) l2.2.1
  have hb : b < gC x2.1 := qb b (List.mem_singleton.mpr rfl)
  have r1 := gQuot_g Q q2
  have r2 := gQuot_g Q' q3
  refine ⟨n, r1, r2, gQuot_iso J q2.1 q3.1 ?_ ?_ r1.1 r2.1 Q Q'⟩
  · rintro u v ⟨rfl, rfl⟩
    exact ⟨ha, hb, ea.symm, eb.symm⟩
  · rintro u v ⟨rfl, rfl⟩
    rw [ea, eb]
    exact ⟨J.1.1 _ ha, J.1.1 _ hb, J.2.2.1 _ ha, J.2.2.1 _ hb⟩
