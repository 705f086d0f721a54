/-! ===== rounds of the same graph are the same ===== -/
theorem okA_hom {σ ρ : Nat → Nat} {g g' : gr} {ru : Nat → prul} {rc : Nat} {a : gact} (I : gIso σ ρ g g') (G : gG 40 g) (G' : gG 40 g') (hr : rusOk ru rc) (h : okA g ru rc a) : okA g' ru rc (σ a.1, a.2.1, fun v => σ (a.2.2 v)) := by
  obtain ⟨r, h1, h2, h3, h4, h5⟩ := h
  obtain ⟨⟨m, hw⟩, -⟩ := hr r h1
  refine ⟨r, h1, I.1.1 _ h2, h3, ?_, fun i i1 i2 => I.1.1 _ (h5 i i1 i2)⟩
  exact gEval_hom (lim' := 40) (vs' := fun v => σ (a.2.2 v)) I.1 G G'.2.1 hw (fun i _ i2 i3 => ⟨h5 i i2 i3, rfl⟩) _ (Nat.le_refl _) [a.1] (gI g) h4
/-- an action and the other side's -/
def aCor (σ : Nat → Nat) (a a' : gact) : Prop := a'.1 = σ a.1 ∧ a'.2.1 = a.2.1 ∧ ∀ c ∈ a.2.1, et_isv c → a'.2.2 (c - 97).toNatClampNeg = σ (a.2.2 (c - 97).toNatClampNeg)
theorem allA_cor {σ ρ : Nat → Nat} {g g' : gr} {ru : Nat → prul} {rc : Nat} {A A' : List gact} (I : gIso σ ρ g g') (G : gG 40 g) (G' : gG 40 g') (hr : rusOk ru rc) (hA : ∀ a ∈ A, okA g ru rc a) (hA' : allA g' ru rc A') : ∀ a ∈ A, ∃ a' ∈ A', aCor σ a a' := fun a ha => by
  obtain ⟨a', h1, h2, h3, h4⟩ := hA'.2 _ (okA_hom I G G' hr (hA a ha))
  exact ⟨a', h1, h2, h3, h4⟩
theorem cor_git {σ : Nat → Nat} {A A' : List gact} (h : ∀ a ∈ A, ∃ a' ∈ A', aCor σ a a') : gCor σ (A.map (fun a => a.2)) (A'.map (fun a => a.2)) := by
  intro it hi
  obtain ⟨a, h1, rfl⟩ := List.mem_map.mp hi
  obtain ⟨a', h2, -, h3, h4⟩ := h a h1
  exact ⟨a'.2, List.mem_map.mpr ⟨a', h2, rfl⟩, h3, h4⟩
theorem map_iOk {g : gr} {ru : Nat → prul} {rc : Nat} {A : List gact} (hr : rusOk ru rc) (hA : ∀ a ∈ A, okA g ru rc a) : ∀ it ∈ A.map (fun a => a.2), iOk (gC g) it := by
  intro it hi
  obtain ⟨a, h1, rfl⟩ := List.mem_map.mp hi
  exact aOk_iOk (okA_aOk hr (hA a h1))
theorem md_full {σ ρ : Nat → Nat} {g g' h' : gr} {ru : Nat → prul} {rc : Nat} {ch : Bool} (I : gIso σ ρ g g') (G : gG 40 g) (G' : gG 40 g') (hr : rusOk ru rc) (F : mdFull g ru rc) (S : mdStep g' ru rc h' ch) : False := by
  obtain ⟨A, s1, a1, a2, a3⟩ := F
  obtain ⟨A', s', b1, b2, b3, -⟩ := S
  have := evs_le (B := 1000) (lim := 1000) I (Nat.le_refl _) (G.mono (by omega)) (G'.mono (by omega)) (runA_evs a2) (runA_evs b2) (map_iOk hr a1) (map_iOk hr b1.1) (cor_git (allA_cor I G G' hr a1 b1))
  omega
/-- the class that an action leads to, on both sides -/
theorem aTo_cor {B B' : Nat} {σ τ : Nat → Nat} {g y y' : gr} {a a' : gact} {b : Nat} (H : gHom τ y y') (G : gG B y) (dis' : gDis y') (le : gLe g y) (hs : ∀ c, c < gC g → τ c = σ c) (ha : aOk g a) (hc : aCor σ a a') (h : aTo y a b) (_hB : gG B' y') : a'.1 = τ a.1 ∧ aTo y' a' (τ b) ∧ a.1 < gC y ∧ b < gC y := by
  obtain ⟨h1, row, fr, to, m, h2, h3, h4⟩ := ha
  obtain ⟨c1, c2, c3⟩ := hc
  unfold aTo at h ⊢
  rw [h2] at h
  have hvs : ∀ i, fr ≤ i → i < to → et_isv (row i) → a.2.2 (row i - 97).toNatClampNeg < gC y := fun i i1 i2 i3 => Nat.lt_of_lt_of_le (h4 i i1 i2 i3) le.2.1
  refine ⟨c1.trans (hs _ h1).symm, ?_, Nat.lt_of_lt_of_le h1 le.2.1, ?_⟩
  · rw [c2, h2]
    refine gEval_hom H G dis' h3 (fun i i1 i2 i3 => ⟨hvs i i1 i2 i3, ?_⟩) _ (Nat.le_refl _) [b] (gI y) h
    rw [c3 _ (by rw [h2]; exact sg_of (by omega) i2) i3, hs _ (h4 i i1 i2 i3)]
  · have G9 : gG (B + 40) y := G.mono (by omega)
    have := (gEval_g (B := B + 40) (lim := 40) (by omega) h3 hvs G9 (Nat.le_refl _) h).2.2 b (List.mem_singleton.mpr rfl)
    exact this
theorem md_flag {σ ρ τ : Nat → Nat} {g g' : gr} {ru : Nat → prul} {rc : Nat} {A A' : List gact} {s s' : gx × Bool} (I : gIso σ ρ g g') (G : gG 40 g) (G' : gG 40 g') (hr : rusOk ru rc) (hA : ∀ a ∈ A, okA g ru rc a) (hA' : ∀ a ∈ A', okA g' ru rc a) (cor : ∀ a' ∈ A', ∃ a ∈ A, aCor ρ a' a) (h : runA 1000 A (gI g, false) = some s) (h' : runA 1000 A' (gI g', false) = some s') (H : gHom τ s.1.1 s'.1.1) (hs : ∀ c, c < gC g → τ c = σ c) (e : s.2 = false) : s'.2 = false := by
  obtain ⟨r1, r2, r3, r4, r5, r6, r7, r8⟩ := runA_sem (Nat.le_refl 1000) A (gI g, false) s (gI_rd (G.mono (by omega))) (fun a ha => okA_aOk hr (hA a ha)) h
  obtain ⟨t1, t2, t3, t4, t5, t6, t7, t8⟩ := runA_sem (Nat.le_refl 1000) A' (gI g', false) s' (gI_rd (G'.mono (by omega))) (fun a ha => okA_aOk hr (hA' a ha)) h'
  obtain ⟨q1, q2⟩ := r6 e
  refine t7 rfl (fun _ _ => rfl) (fun a' ha' b' hb' => ?_)
  obtain ⟨a, ha, c1, c2, c3⟩ := cor a' ha'
  obtain ⟨b, b1, b2, b3⟩ := r4 a ha
  have ao := okA_aOk hr (hA a ha)
  have ao' := okA_aOk hr (hA' a' ha')
  have e1 : b = a.1 := by
    have z1 := q2 a.1 ao.1
    have hbg : b < gC g := by rw [q1] at b1; exact b1
    have z2 := q2 b hbg
    have z3 : s.1.2 a.1 = a.1 := z1
    have z4 : s.1.2 b = b := z2
    rw [z3, z4] at b3
    exact b3.symm
  have cor' : aCor σ a a' := by
    refine ⟨?_, c2.symm, fun c hc hv => ?_⟩
    · rw [c1, I.2.2.2 _ ao'.1]
    · obtain ⟨-, row, fr, to, m, k1, k2, k3⟩ := ao'
      rw [c2] at hc
      rw [c3 c hc hv]
      have hcc := hc
      rw [k1] at hcc
      obtain ⟨j, j1, j2, rfl⟩ := sg_mem (by omega) hcc
      rw [I.2.2.2 _ (k3 j (by have := k2.1; omega) j2 hv)]
  obtain ⟨u1, u2, -⟩ := aTo_cor (B := 1000) (B' := 1000) H r1.1 t1.1.2.1 r2 hs ao cor' b2 t1.1
  rw [aTo_one hb' u2, u1, e1]
theorem md_step {σ ρ : Nat → Nat} {g g' h h' : gr} {ru : Nat → prul} {rc : Nat} {ch ch' : Bool} (I : gIso σ ρ g g') (G : gG 40 g) (G' : gG 40 g') (hr : rusOk ru rc) (S : mdStep g ru rc h ch) (S' : mdStep g' ru rc h' ch') : ch = ch' ∧ gG 40 h ∧ gG 40 h' ∧ ∃ τ μ, gIso τ μ h h' := by
  obtain ⟨A, s, a1, a2, a3, a4, a5⟩ := S
  obtain ⟨A', s', b1, b2, b3, b4, b5⟩ := S'
  have c1 := allA_cor I G G' hr a1.1 b1
  have c2 := allA_cor I.symm G' G hr b1.1 a1
  have G9 := G.mono (B' := 1000) (by omega)
  have G9' := G'.mono (B' := 1000) (by omega)
  have v1 := runA_evs a2
  have v2 := runA_evs b2
  obtain ⟨τ, μ, J, hs⟩ := evs_iso (B := 1000) (lim := 1000) I (Nat.le_refl _) G9 G9' v1 v2 (map_iOk hr a1.1) (map_iOk hr b1.1) (cor_git c1) (cor_git c2)
  obtain ⟨m1, m2, m3⟩ := evs_g (g := g) (Nat.le_refl 1000) v1 G9 (gNw.refl _) (map_iOk hr a1.1)
  obtain ⟨n1, n2, n3⟩ := evs_g (g := g') (Nat.le_refl 1000) v2 G9' (gNw.refl _) (map_iOk hr b1.1)
  have hs' : ∀ c, c < gC g' → μ c = ρ c := fun c hc => by
    have := I.2.1.1 c hc
    have e1 : τ (ρ c) = c := (hs _ this).trans (I.2.2.2 c hc)
    have e2 := J.2.2.1 (ρ c) (Nat.lt_of_lt_of_le this m3.2.1)
    rw [e1] at e2
    exact e2
  have G1 : gG 40 s.1.1 := m1.cut a3
  have G2 : gG 40 s'.1.1 := n1.cut b3
  have q1 := gQuot_g a5 G1
  have q2 := gQuot_g b5 G2
  refine ⟨?_, q1, q2, ?_⟩
  · cases hc : s.2 with
    | false => rw [← a4, ← b4, hc, md_flag I G G' hr a1.1 b1.1 c2 a2 b2 J.1 hs hc]
    | true =>
      cases hc' : s'.2 with
      | true => rw [← a4, ← b4, hc, hc']
      | false =>
        have := md_flag I.symm G' G hr b1.1 a1.1 c1 b2 a2 J.2.1 hs' hc'
        rw [hc] at this
        cases this
  · refine gQuot_iso J G1.1 G2.1 ?_ ?_ q1.1 q2.1 a5 b5
    · rintro u v ⟨a, z1, z2, z3⟩
      obtain ⟨a', y1, y2⟩ := c1 a z1
      obtain ⟨w1, w2, w3, w4⟩ := aTo_cor J.1 G1 G2.2.1 m3 hs (okA_aOk hr (a1.1 a z1)) y2 z3 G2
      subst z2
      exact ⟨w3, w4, a', y1, w1, w2⟩
    · rintro u v ⟨a, z1, z2, z3⟩
      obtain ⟨a', y1, y2⟩ := c2 a z1
      obtain ⟨w1, w2, w3, w4⟩ := aTo_cor J.2.1 G2 G1.2.1 n3 hs' (okA_aOk hr (b1.1 a z1)) y2 z3 G1
      subst z2
      exact ⟨w3, w4, a', y1, w1, w2⟩
/-- the model's rounds -/
def mdsP (ru : Nat → prul) (rc : Nat) : Nat → Nat → gr → Int32 → gr → Prop
  | 0, k, g, v, g' => v = nI k ∧ g' = g
  | t + 1, k, g, v, g' => (mdFull g ru rc ∧ v = -2 ∧ g' = g) ∨ (mdStep g ru rc g' false ∧ v = nI k) ∨ ∃ g1, mdStep g ru rc g1 true ∧ mdsP ru rc t (k + 1) g1 v g'
theorem mds_eq {ru : Nat → prul} {rc : Nat} (hr : rusOk ru rc) : ∀ {t k : Nat} {g g' h h' : gr} {v v' : Int32} {σ ρ : Nat → Nat}, gIso σ ρ g g' → gG 40 g → gG 40 g' → rdsP 40 ru rc t k g v h → mdsP ru rc t k g' v' h' → v = v' ∧ gG 40 h ∧ gG 40 h' ∧ ∃ τ μ, gIso τ μ h h'
  | 0, k, g, g', h, h', v, v', σ, ρ, I, G, G', ⟨a1, a2⟩, ⟨b1, b2⟩ => by
    subst a1 a2 b1 b2
    exact ⟨rfl, G, G', σ, ρ, I⟩
  | t + 1, k, g, g', h, h', v, v', σ, ρ, I, G, G', X, X' => by
    rcases X with ⟨a1, a2, a3⟩ | ⟨a1, a2⟩ | ⟨g1, a1, a2⟩
    · have a1 := rd_full G hr a1
      rcases X' with ⟨b1, b2, b3⟩ | ⟨b1, b2⟩ | ⟨g1', b1, b2⟩
      · subst a2 a3 b2 b3
        exact ⟨rfl, G, G', σ, ρ, I⟩
      · exact (md_full I G G' hr a1 b1).elim
      · exact (md_full I G G' hr a1 b1).elim
    · have a1 := rd_step G hr a1
      rcases X' with ⟨b1, b2, b3⟩ | ⟨b1, b2⟩ | ⟨g1', b1, b2⟩
      · exact (md_full I.symm G' G hr b1 a1).elim
      · subst a2 b2
        obtain ⟨-, r⟩ := md_step I G G' hr a1 b1
        exact ⟨rfl, r⟩
      · have := (md_step I G G' hr a1 b1).1
        cases this
    · have a1 := rd_step G hr a1
      rcases X' with ⟨b1, b2, b3⟩ | ⟨b1, b2⟩ | ⟨g1', b1, b2⟩
      · exact (md_full I.symm G' G hr b1 a1).elim
      · have := (md_step I G G' hr a1 b1).1
        cases this
      · obtain ⟨-, r1, r2, τ, μ, J⟩ := md_step I G G' hr a1 b1
        exact mds_eq hr J r1 r2 a2 b2
