/-! ===== two graphs grow by the same terms, in any order ===== -/
abbrev git : Type := List Int32 × (Nat → Nat)
def evs (lim : Nat) : List git → gr → gr → Prop
  | [], g, g' => g' = g
  | it :: L, g, g' => ∃ (x y : gx) (stk : List Nat), x.1 = g ∧ gEval true lim it.2 it.1 x = some (stk, y) ∧ evs lim L y.1 g'
theorem evs.nil {lim : Nat} (g : gr) : evs lim [] g g := rfl
theorem evs.cons {lim : Nat} {g g' : gr} {x y : gx} {it : git} {stk : List Nat} {L : List git} (e : x.1 = g) (h : gEval true lim it.2 it.1 x = some (stk, y)) (t : evs lim L y.1 g') : evs lim (it :: L) g g' := ⟨x, y, stk, e, h, t⟩
def iOk (C : Nat) (it : git) : Prop := ∃ (row : Nat → Int32) (fr to : Nat) (m : Nat → Nat), it.1 = sg row to (to - fr) ∧ wf m row fr to ∧ ∀ i, fr ≤ i → i < to → et_isv (row i) → it.2 (row i - 97).toNatClampNeg < C
theorem sg_of {row : Nat → Int32} {to i : Nat} : ∀ {k : Nat}, to - k ≤ i → i < to → row i ∈ sg row to k
  | 0, h1, h2 => by omega
  | k + 1, h1, h2 => by
    rw [sg]
    by_cases e : i = to - (k + 1)
    · rw [e]; exact List.mem_cons_self
    · exact List.mem_cons_of_mem _ (sg_of (by omega) h2)
theorem evs_g {lim B : Nat} {g : gr} (hB : lim ≤ B) : ∀ {L : List git} {x y : gr}, evs lim L x y → gG B x → gNw g x → (∀ it ∈ L, iOk (gC g) it) → gG B y ∧ gNw g y ∧ gLe x y
  | [], _, _, e, G, nw, _ => by
    have e : _ = _ := e
    subst e
    exact ⟨G, nw, gLe.refl _⟩
  | it :: L, _, _, ⟨x, y, stk, e, h, t⟩, G, nw, ok => by
    subst e
    obtain ⟨row, fr, to, m, o1, o2, o3⟩ := ok _ List.mem_cons_self
    rw [o1] at h
    have hvs : ∀ i, fr ≤ i → i < to → et_isv (row i) → it.2 (row i - 97).toNatClampNeg < gC x.1 := fun i a b c => Nat.lt_of_lt_of_le (o3 i a b c) nw.1.2.1
    obtain ⟨a1, a2, -⟩ := gEval_nw hB o2 hvs G nw (Nat.le_refl _) h
    obtain ⟨b1, b2, b3⟩ := evs_g hB t a1 a2 (fun it hi => ok it (List.mem_cons_of_mem _ hi))
    exact ⟨b1, b2, (gEval_le hB o2 hvs G (Nat.le_refl _) h).trans b3⟩
/-- what was made is there -/
theorem evs_found {lim lim' B : Nat} {g : gr} (hB : lim ≤ B) : ∀ {L : List git} {x y : gr}, evs lim L x y → gG B x → gNw g x → (∀ it ∈ L, iOk (gC g) it) → ∀ it ∈ L, ∃ stk, gEval false lim' it.2 it.1 (gI y) = some (stk, gI y)
  | [], _, _, _, G, nw, _ => fun it h => by cases h
  | it :: L, _, g', ⟨x, y, stk, e, h, t⟩, G, nw, ok => by
    subst e
    obtain ⟨row, fr, to, m, o1, o2, o3⟩ := ok _ List.mem_cons_self
    have h0 := h
    rw [o1] at h
    have hvs : ∀ i, fr ≤ i → i < to → et_isv (row i) → it.2 (row i - 97).toNatClampNeg < gC x.1 := fun i a b c => Nat.lt_of_lt_of_le (o3 i a b c) nw.1.2.1
    obtain ⟨a1, a2, -⟩ := gEval_nw hB o2 hvs G nw (Nat.le_refl _) h
    have ok' : ∀ it ∈ _, iOk (gC g) it := fun it hi => ok it (List.mem_cons_of_mem _ hi)
    obtain ⟨b1, b2, b3⟩ := evs_g hB t a1 a2 ok'
    intro it2 hi
    rcases List.mem_cons.mp hi with e | hi
    · subst e
      exact ⟨stk, by rw [o1]; exact gEval_found hB o2 hvs G b1.2.1 _ (Nat.le_refl _) stk y h b3⟩
    · exact evs_found hB t a1 a2 ok' it2 hi
/-- each term of the first list is, its variables renamed, in the second -/
def gCor (σ : Nat → Nat) (L L' : List git) : Prop := ∀ it ∈ L, ∃ it' ∈ L', it'.1 = it.1 ∧ ∀ c ∈ it.1, et_isv c → it'.2 (c - 97).toNatClampNeg = σ (it.2 (c - 97).toNatClampNeg)
theorem evs_em {B B0 lim lim' : Nat} {g g' y' : gr} {σ ρ : Nat → Nat} (I : gIso σ ρ g g') (G0' : gOk B0 g') (hB : lim ≤ B) (dis' : gDis y') (nw' : gNw g' y') : ∀ {L : List git} {x y : gr} {τ : Nat → Nat}, evs lim L x y → gG B x → gNw g x → (∀ it ∈ L, iOk (gC g) it) → gEm g g' x y' σ τ → (∀ it ∈ L, ∃ (vs' : Nat → Nat) (stk : List Nat), (∀ c ∈ it.1, et_isv c → vs' (c - 97).toNatClampNeg = σ (it.2 (c - 97).toNatClampNeg)) ∧ gEval false lim' vs' it.1 (gI y') = some (stk, gI y')) → ∃ τ1, gEm g g' y y' σ τ1
  | [], _, _, τ, e, G, nw, _, E, _ => by
    have e : _ = _ := e
    subst e
    exact ⟨τ, E⟩
  | it :: L, _, _, τ, ⟨x, y, stk, e, h, t⟩, G, nw, ok, E, hy => by
    subst e
    obtain ⟨row, fr, to, m, o1, o2, o3⟩ := ok _ List.mem_cons_self
    obtain ⟨vs', stk', v1, v2⟩ := hy _ List.mem_cons_self
    rw [o1] at h v2
    have hvs : ∀ i, fr ≤ i → i < to → et_isv (row i) → it.2 (row i - 97).toNatClampNeg < gC x.1 := fun i a b c => Nat.lt_of_lt_of_le (o3 i a b c) nw.1.2.1
    obtain ⟨a1, a2, -⟩ := gEval_nw hB o2 hvs G nw (Nat.le_refl _) h
    obtain ⟨τ1, E1, -⟩ := gEval_em I G0' hB G dis' nw nw' E o2 (fun i a b c => ⟨o3 i a b c, v1 _ (by rw [o1]; exact sg_of (by have := o2.1; omega) b) c⟩) (to - fr) (Nat.le_refl _) stk y stk' h v2
    exact evs_em I G0' hB dis' nw' t a1 a2 (fun it hi => ok it (List.mem_cons_of_mem _ hi)) E1 (fun it hi => hy it (List.mem_cons_of_mem _ hi))
theorem gEm_0 {g g' y' : gr} {σ ρ : Nat → Nat} (I : gIso σ ρ g g') (le : gLe g' y') : gEm g g' g y' σ σ := by
  refine ⟨fun _ _ => rfl, fun a h1 h2 => by omega, I.inj, fun a ha => Nat.lt_of_lt_of_le (I.1.1 a ha) le.2.1, fun n hn => ?_⟩
  obtain ⟨n', k1, k2, k3, k4, k5⟩ := I.1.2 n hn
  obtain ⟨f1, f2, f3, f4⟩ := le.2.2 n' k1
  exact ⟨n', Nat.lt_of_lt_of_le k1 le.1, f1.trans k2, f2.trans k3, f3.trans k4, f4.trans k5⟩
/-- the first lies in the second -/
theorem evs_in {B lim : Nat} {g g' y y' : gr} {σ ρ : Nat → Nat} {L L' : List git} (I : gIso σ ρ g g') (hB : lim ≤ B) (G : gG B g) (G' : gG B g') (h : evs lim L g y) (h' : evs lim L' g' y') (ok : ∀ it ∈ L, iOk (gC g) it) (ok' : ∀ it ∈ L', iOk (gC g') it) (cor : gCor σ L L') : ∃ τ, gEm g g' y y' σ τ := by
  obtain ⟨a1, a2, a3⟩ := evs_g hB h' G' (gNw.refl _) ok'
  refine evs_em (lim' := 0) I G'.1 hB a1.2.1 a2 h G (gNw.refl _) ok (gEm_0 I a3) (fun it hi => ?_)
  obtain ⟨it', h1, h2, h3⟩ := cor it hi
  obtain ⟨stk, f⟩ := evs_found (lim' := 0) hB h' G' (gNw.refl _) ok' it' h1
  exact ⟨it'.2, stk, h3, by rw [← h2]; exact f⟩
theorem evs_le {B lim : Nat} {g g' y y' : gr} {σ ρ : Nat → Nat} {L L' : List git} (I : gIso σ ρ g g') (hB : lim ≤ B) (G : gG B g) (G' : gG B g') (h : evs lim L g y) (h' : evs lim L' g' y') (ok : ∀ it ∈ L, iOk (gC g) it) (ok' : ∀ it ∈ L', iOk (gC g') it) (cor : gCor σ L L') : gN y ≤ gN y' := by
  obtain ⟨τ, e1, e2, e3, e4, e5⟩ := evs_in I hB G G' h h' ok ok' cor
  have hc := ph_le e4 e3
  obtain ⟨-, n1, -⟩ := (evs_g hB h G (gNw.refl _) ok).2.1
  obtain ⟨-, n2, -⟩ := (evs_g hB h' G' (gNw.refl _) ok').2.1
  have i1 := I.c
  have i2 := I.n G G'
  omega
theorem gEm_iso {g g' y y' : gr} {σ ρ τ : Nat → Nat} (I : gIso σ ρ g g') (nn : gN g = gN g') (nw : gNw g y) (nw' : gNw g' y') {B B' : Nat} (ok : gOk B' y) (ok0' : gOk B g') (E : gEm g g' y y' σ τ) (hN : gN y = gN y') : ∃ μ, gIso τ μ y y' := by
  obtain ⟨e1, e2, e3, e4, e5⟩ := E
  have ok' : ∀ n, n < gN g' → gH g' n < gC g' := fun n hn => (ok0'.2.2 n hn).1
  have i1 := I.c
  have back : ∀ q, q ≤ gC g' → q = up τ (up ρ q) := fun q hq => by
    cases q with
    | zero => rfl
    | succ k =>
      show k + 1 = τ (ρ k) + 1
      rw [e1 _ (I.2.1.1 k hq), I.2.2.2 k hq]
  have hC : gC y = gC y' := by have := nw.2.1; have := nw'.2.1; omega
  have sur : ∀ c, c < gC y' → ∃ a, a < gC y ∧ τ a = c := by
    intro c hc
    obtain ⟨a, h1, h2⟩ := ph_sur (n := gC y) (f := τ) (fun i hi => hC ▸ e4 i hi) e3 c (by omega)
    exact ⟨a, h1, h2⟩
  have ex : ∀ c, ∃ a, c < gC y' → a < gC y ∧ τ a = c := fun c => by
    by_cases hc : c < gC y'
    · obtain ⟨a, h⟩ := sur c hc
      exact ⟨a, fun _ => h⟩
    · exact ⟨0, fun z => absurd z hc⟩
  have inv : ∀ a, a < gC y → Classical.choose (ex (τ a)) = a := fun a ha => by
    obtain ⟨s1, s2⟩ := Classical.choose_spec (ex (τ a)) (e4 a ha)
    exact e3 _ _ s1 ha s2
  have node : ∀ n', n' < gN y' → ∃ n, n < gN y ∧ gIm τ y n y' n' := by
    intro n' hn'
    by_cases z : n' < gN g'
    · obtain ⟨m, m1, m2, m3, m4, m5⟩ := I.2.1.2 n' z
      obtain ⟨f1, f2, f3, f4⟩ := nw'.1.2.2 n' z
      obtain ⟨p1, p2, p3, p4⟩ := nw.1.2.2 m m1
      obtain ⟨m', q1, q2, q3, q4, q5⟩ := I.1.2 m m1
      obtain ⟨n2, r1, r2, r3, r4, r5⟩ := e5 m (Nat.lt_of_lt_of_le m1 nw.1.1)
      have hh : gH g m < gC g := by rw [m5]; exact I.2.1.1 _ (ok' n' z)
      refine ⟨m, Nat.lt_of_lt_of_le m1 nw.1.1, ?_, ?_, ?_, ?_⟩
      · rw [f1, p1, m2]
      · rw [f2, p2, m3]; exact back _ (ok0'.2.2 n' z).2.1
      · rw [f3, p3, m4]; exact back _ (ok0'.2.2 n' z).2.2
      · rw [f4, p4, m5, e1 _ (I.2.1.1 _ (ok' n' z)), I.2.2.2 _ (ok' n' z)]
    · have k1 := nw'.2.2 n' (by omega) hn'
      have k2 := nw'.2.1
      obtain ⟨a, a1, a2⟩ := sur (gH y' n') (by omega)
      have a3 : gC g ≤ a := by
        refine Nat.le_of_not_lt fun z2 => ?_
        have := I.1.1 a z2
        rw [← e1 a z2, a2] at this
        omega
      have j1 := nw.2.1
      have j2 := nw.2.2 (gN g + (a - gC g)) (by omega) (by omega)
      obtain ⟨m', q1, q2, q3, q4, q5⟩ := e5 (gN g + (a - gC g)) (by omega)
      have hm2 : gH y (gN g + (a - gC g)) = a := by omega
      have q50 := q5
      rw [hm2, a2] at q5
      have q6 : gN g' ≤ m' := by
        refine Nat.le_of_not_lt fun z2 => ?_
        have := ok' m' z2
        rw [← (nw'.1.2.2 m' z2).2.2.2, q5] at this
        omega
      have q7 := nw'.2.2 m' q6 q1
      have q8 : m' = n' := by omega
      subst q8
      exact ⟨gN g + (a - gC g), by omega, q2, q3, q4, q50⟩
  refine ⟨fun c => Classical.choose (ex c), ⟨e4, e5⟩, ⟨fun a ha => (Classical.choose_spec (ex a) ha).1, fun n' hn' => ?_⟩, inv, fun a ha => (Classical.choose_spec (ex a) ha).2⟩
  obtain ⟨n, h1, h2, h3, h4, h5⟩ := node n' hn'
  obtain ⟨o1, o2, o3⟩ := ok.2.2 n h1
  refine ⟨n, h1, h2.symm, ?_, ?_, ?_⟩
  · rw [h3]; exact (up_inv (ρ := fun c => Classical.choose (ex c)) inv o2).symm
  · rw [h4]; exact (up_inv (ρ := fun c => Classical.choose (ex c)) inv o3).symm
  · rw [h5]; exact (inv _ o1).symm
/-- both grow by the same terms: they stay the same -/
theorem evs_iso {B lim : Nat} {g g' y y' : gr} {σ ρ : Nat → Nat} {L L' : List git} (I : gIso σ ρ g g') (hB : lim ≤ B) (G : gG B g) (G' : gG B g') (h : evs lim L g y) (h' : evs lim L' g' y') (ok : ∀ it ∈ L, iOk (gC g) it) (ok' : ∀ it ∈ L', iOk (gC g') it) (cor : gCor σ L L') (cor' : gCor ρ L' L) : ∃ τ μ, gIso τ μ y y' ∧ ∀ a, a < gC g → τ a = σ a := by
  obtain ⟨τ, E⟩ := evs_in I hB G G' h h' ok ok' cor
  have n1 := evs_le I hB G G' h h' ok ok' cor
  have n2 := evs_le I.symm hB G' G h' h ok' ok cor'
  obtain ⟨a1, a2, a3⟩ := evs_g hB h G (gNw.refl _) ok
  obtain ⟨b1, b2, b3⟩ := evs_g hB h' G' (gNw.refl _) ok'
  obtain ⟨μ, J⟩ := gEm_iso I (I.n G G') a2 b2 a1.1 G'.1 E (by omega)
  exact ⟨τ, μ, J, E.1⟩
/-- the quotients of two graphs that are the same, by pairs that are the same -/
theorem gCong_iso {σ ρ : Nat → Nat} {g g' : gr} {P P' : Nat → Nat → Prop} {B : Nat} (I : gIso σ ρ g g') (ok : gOk B g) (hP : ∀ a b, P a b → a < gC g ∧ b < gC g ∧ P' (σ a) (σ b)) {a b : Nat} (ha : a < gC g) (hb : b < gC g) (h : gCong g P a b) : gCong g' P' (σ a) (σ b) := by
  intro R hR hP' hc
  have key := h (fun u v => (u < gC g ∧ v < gC g ∧ R (σ u) (σ v)) ∨ u = v) ⟨fun u => Or.inr rfl, fun u v => by
    rintro (⟨h1, h2, h3⟩ | h)
    · exact Or.inl ⟨h2, h1, hR.2.1 _ _ h3⟩
    · exact Or.inr h.symm, fun u v w => by
    rintro (⟨h1, h2, h3⟩ | h) (⟨k1, k2, k3⟩ | k)
    · exact Or.inl ⟨h1, k2, hR.2.2 _ _ _ h3 k3⟩
    · subst k; exact Or.inl ⟨h1, h2, h3⟩
    · subst h; exact Or.inl ⟨k1, k2, k3⟩
    · exact Or.inr (h.trans k)⟩ (fun u v h => by
    obtain ⟨h1, h2, h3⟩ := hP u v h
    exact Or.inl ⟨h1, h2, hP' _ _ h3⟩) (fun n m hn hm hs hl hr => by
    obtain ⟨n', q1, q2, q3, q4, q5⟩ := I.1.2 n hn
    obtain ⟨m', r1, r2, r3, r4, r5⟩ := I.1.2 m hm
    obtain ⟨o1, o2, o3⟩ := ok.2.2 n hn
    obtain ⟨p1, p2, p3⟩ := ok.2.2 m hm
    have lift : ∀ {l l' : Nat}, upR (fun u v => (u < gC g ∧ v < gC g ∧ R (σ u) (σ v)) ∨ u = v) l l' → upR R (up σ l) (up σ l') := by
      intro l l' h
      cases l with
      | zero => cases l' with
        | zero => trivial
        | succ k => exact h.elim
      | succ k => cases l' with
        | zero => exact h.elim
        | succ k' =>
          rcases (show (k < gC g ∧ k' < gC g ∧ R (σ k) (σ k')) ∨ k = k' from h) with ⟨-, -, h3⟩ | h
          · exact h3
          · subst h; exact hR.1 _
    refine Or.inl ⟨o1, p1, ?_⟩
    rw [← q5, ← r5]
    exact hc n' m' q1 r1 (by rw [q2, r2, hs]) (by rw [q3, r3]; exact lift hl) (by rw [q4, r4]; exact lift hr))
  rcases key with ⟨-, -, h⟩ | h
  · exact h
  · subst h; exact hR.1 _
theorem gQuot_iso {σ ρ : Nat → Nat} {g g' h h' : gr} {P P' : Nat → Nat → Prop} {B B' : Nat} (I : gIso σ ρ g g') (ok : gOk B g) (ok' : gOk B' g') (hP : ∀ a b, P a b → a < gC g ∧ b < gC g ∧ P' (σ a) (σ b)) (hP' : ∀ a b, P' a b → a < gC g' ∧ b < gC g' ∧ P (ρ a) (ρ b)) (okh : gOk B h) (okh' : gOk B' h') (Q : gQuot g P h) (Q' : gQuot g' P' h') : ∃ τ μ, gIso τ μ h h' := by
  have half : ∀ {σ ρ : Nat → Nat} {g g' h h' : gr} {P P' : Nat → Nat → Prop} {B B' : Nat}, gIso σ ρ g g' → gOk B g → gOk B' g' → (∀ a b, P a b → a < gC g ∧ b < gC g ∧ P' (σ a) (σ b)) → gOk B h → (q : Nat → Nat) → (q' : Nat → Nat) → (∀ c, c < gC g → q c < gC h) → (∀ a b, a < gC g → b < gC g → (q a = q b ↔ gCong g P a b)) → (∀ n', n' < gN h → ∃ n, n < gN g ∧ gIm q g n h n') → gSur h → (∀ c, c < gC g' → q' c < gC h') → (∀ a b, a < gC g' → b < gC g' → (q' a = q' b ↔ gCong g' P' a b)) → (∀ n, n < gN g' → ∃ n', n' < gN h' ∧ gIm q' g' n h' n') → ∃ τ, gHom τ h h' ∧ ∀ a, a < gC g → τ (q a) = q' (σ a) := by
    intro σ ρ g g' h h' P P' B B' I ok ok' hP okh q q' q1 q2 q4 q6 r1 r2 r3
    have sur : ∀ c, c < gC h → ∃ a, a < gC g ∧ q a = c := fun c hc => by
      obtain ⟨n', n1, n2⟩ := q6 c hc
      obtain ⟨n, m1, m2, m3, m4, m5⟩ := q4 n' n1
      exact ⟨gH g n, (ok.2.2 n m1).1, by rw [← m5, n2]⟩
    have ex : ∀ c, ∃ a, c < gC h → a < gC g ∧ q a = c := fun c => by
      by_cases hc : c < gC h
      · obtain ⟨a, h⟩ := sur c hc
        exact ⟨a, fun _ => h⟩
      · exact ⟨0, fun z => absurd z hc⟩
    have val : ∀ a, a < gC g → q' (σ (Classical.choose (ex (q a)))) = q' (σ a) := fun a ha => by
      obtain ⟨s1, s2⟩ := Classical.choose_spec (ex (q a)) (q1 a ha)
      exact (r2 _ _ (I.1.1 _ s1) (I.1.1 _ ha)).mpr (gCong_iso I ok hP s1 ha ((q2 _ _ s1 ha).mp s2))
    have vup : ∀ l, l ≤ gC g → up q' (up σ l) = up (fun c => q' (σ (Classical.choose (ex c)))) (up q l) := fun l hl => by
      cases l with
      | zero => rfl
      | succ k =>
        show q' (σ k) + 1 = q' (σ (Classical.choose (ex (q k)))) + 1
        rw [val k hl]
    refine ⟨fun c => q' (σ (Classical.choose (ex c))), ⟨fun a ha => r1 _ (I.1.1 _ (Classical.choose_spec (ex a) ha).1), fun n' hn' => ?_⟩, val⟩
    obtain ⟨n, m1, m2, m3, m4, m5⟩ := q4 n' hn'
    obtain ⟨o1, o2, o3⟩ := ok.2.2 n m1
    obtain ⟨u, u1, u2, u3, u4, u5⟩ := I.1.2 n m1
    obtain ⟨w, w1, w2, w3, w4, w5⟩ := r3 u u1
    refine ⟨w, w1, ?_, ?_, ?_, ?_⟩
    · rw [w2, u2, m2]
    · rw [w3, u3, m3]; exact vup _ o2
    · rw [w4, u4, m4]; exact vup _ o3
    · rw [w5, u5, m5]; exact (val _ o1).symm
  obtain ⟨q, q1, q2, q3, q4, q5, q6, q7, q8⟩ := Q
  obtain ⟨q', r1, r2, r3, r4, r5, r6, r7, r8⟩ := Q'
  obtain ⟨τ, t1, t2⟩ := half I ok ok' hP okh q q' q1 q2 q4 q6 r1 r2 r3
  obtain ⟨μ, t3, t4⟩ := half I.symm ok' ok hP' okh' q' q r1 r2 r4 r6 q1 q2 q3
  have back : ∀ {σ ρ : Nat → Nat} {g g' h h' : gr} {q q' τ μ : Nat → Nat}, gIso σ ρ g g' → (∀ n, n < gN g → gH g n < gC g) → (∀ n', n' < gN h → ∃ n, n < gN g ∧ gIm q g n h n') → gSur h → (∀ a, a < gC g → τ (q a) = q' (σ a)) → (∀ a, a < gC g' → μ (q' a) = q (ρ a)) → ∀ a, a < gC h → μ (τ a) = a := by
    intro σ ρ g g' h h' q q' τ μ I ok q4 q6 t2 t4 a ha
    obtain ⟨n', n1, n2⟩ := q6 a ha
    obtain ⟨n, m1, m2, m3, m4, m5⟩ := q4 n' n1
    have hh := ok n m1
    rw [← n2, m5, t2 _ hh, t4 _ (I.1.1 _ hh), I.2.2.1 _ hh]
  exact ⟨τ, μ, t1, t3, back (h' := h') I (fun n hn => (ok.2.2 n hn).1) q4 q6 t2 t4, back (h' := h) I.symm (fun n hn => (ok'.2.2 n hn).1) r4 r6 t4 t2⟩
