theorem mk_sh0 : ∀ a b c : Bool, (mkB a b c >>> (nI 0 &&& 31)) &&& 1 = 1 ↔ a = true := by decide
theorem mk_sh1 : ∀ a b c : Bool, (mkB a b c >>> (nI 1 &&& 31)) &&& 1 = 1 ↔ b = true := by decide
theorem mk_sh2 : ∀ a b c : Bool, (mkB a b c >>> (nI 2 &&& 31)) &&& 1 = 1 ↔ c = true := by decide
set_option maxHeartbeats 4000000 in
set_option maxRecDepth 100000 in
theorem c_M_nextChoice {sc : et_X} {h : Nat → et_MC} {d n : Nat} {th le a_ wr en al se ru nd cs un rs : Int32} {dc ds : Int64} {va : Nat → Int32} {t : Nat → Nat} (b0 b1 b2 : Bool) (m : Nat) (hm : m ≤ 40) (h64 : h 64 = et_Mo th le a_ wr en al se ru nd cs un rs dc ds) (h75 : h 75 = .inl (0, 3, .inl va)) (hva : ∀ v, v < 3 → va v = nI (t v)) (hA : adm m b0 b1 b2 t) : et_Cn sc Y_M_nextChoice d [.ref 64, .int (mkB b0 b1 b2), .int (nI m)] h n 0 0 (fun r h' n' => n' = n ∧ (∀ k, k ≠ 75 → h' k = h k) ∧ ∃ va' : Nat → Int32, h' 75 = .inl (0, 3, .inl va') ∧ ((r = .inl (some (.int 1)) ∧ ∃ t' : Nat → Nat, (∀ v, v < 3 → va' v = nI (t' v)) ∧ ((b0 = true ∧ t 0 + 1 < m ∧ t' 0 = t 0 + 1 ∧ t' 1 = t 1 ∧ t' 2 = t 2) ∨ ((b0 = true → m ≤ t 0 + 1) ∧ b1 = true ∧ t 1 + 1 < m ∧ t' 0 = 0 ∧ t' 1 = t 1 + 1 ∧ t' 2 = t 2) ∨ ((b0 = true → m ≤ t 0 + 1) ∧ (b1 = true → m ≤ t 1 + 1) ∧ b2 = true ∧ t 2 + 1 < m ∧ t' 0 = 0 ∧ t' 1 = 0 ∧ t' 2 = t 2 + 1))) ∨ (r = .inl (some (.int 0)) ∧ (b0 = true → m ≤ t 0 + 1) ∧ (b1 = true → m ≤ t 1 + 1) ∧ (b2 = true → m ≤ t 2 + 1)))) := by
  refine et_Cn.of 1 rfl rfl (by decide) mV_M_nextChoice.1 ?_
  obtain ⟨a0, a1, a2⟩ := adm_cut hA
  have step : ∀ (v : Nat) (bit : Bool) (g : Nat → Int32) (tv : Nat) (hh : Nat → et_MC), v < 3 → ((mkB b0 b1 b2 >>> (nI v &&& 31)) &&& 1 = 1 ↔ bit = true) → g v = nI tv → tv ≤ 40 → hh 75 = .inl (0, 3, .inl g) → (∀ k, k ≠ 75 → hh k = h k) → (∀ (h2 : Nat → et_MC) (g2 : Nat → Int32), h2 75 = .inl (0, 3, .inl g2) → (∀ k, k ≠ 75 → h2 k = h k) → bit = true → tv + 1 < m → g2 v = nI (tv + 1) → (∀ j, j ≠ v → g2 j = g j) → ((fun r h' n' => n' = n ∧ (∀ k, k ≠ 75 → h' k = h k) ∧ ∃ va' : Nat → Int32, h' 75 = .inl (0, 3, .inl va') ∧ ((r = .inl (some (.int 1)) ∧ ∃ t' : Nat → Nat, (∀ v, v < 3 → va' v = nI (t' v)) ∧ ((b0 = true ∧ t 0 + 1 < m ∧ t' 0 = t 0 + 1 ∧ t' 1 = t 1 ∧ t' 2 = t 2) ∨ ((b0 = true → m ≤ t 0 + 1) ∧ b1 = true ∧ t 1 + 1 < m ∧ t' 0 = 0 ∧ t' 1 = t 1 + 1 ∧ t' 2 = t 2) ∨ ((b0 = true → m ≤ t 0 + 1) ∧ (b1 = true → m ≤ t 1 + 1) ∧ b2 = true ∧ t 2 + 1 < m ∧ t' 0 = 0 ∧ t' 1 = 0 ∧ t' 2 = t 2 + 1))) ∨ (r = .inl (some (.int 0)) ∧ (b0 = true → m ≤ t 0 + 1) ∧ (b1 = true → m ≤ t 1 + 1) ∧ (b2 = true → m ≤ t 2 + 1)))) : et_R → (Nat → et_MC) → Nat → Prop) (.inl (some (.int 1))) h2 n) → (∀ (h2 : Nat → et_MC) (g2 : Nat → Int32), h2 75 = .inl (0, 3, .inl g2) → (∀ k, k ≠ 75 → h2 k = h k) → ((bit = false ∧ g2 v = g v) ∨ (bit = true ∧ m ≤ tv + 1 ∧ g2 v = nI 0)) → (∀ j, j ≠ v → g2 j = g j) → et_M sc Y_M_nextChoice d 0 0 (fun r h' n' => n' = n ∧ (∀ k, k ≠ 75 → h' k = h k) ∧ ∃ va' : Nat → Int32, h' 75 = .inl (0, 3, .inl va') ∧ ((r = .inl (some (.int 1)) ∧ ∃ t' : Nat → Nat, (∀ v, v < 3 → va' v = nI (t' v)) ∧ ((b0 = true ∧ t 0 + 1 < m ∧ t' 0 = t 0 + 1 ∧ t' 1 = t 1 ∧ t' 2 = t 2) ∨ ((b0 = true → m ≤ t 0 + 1) ∧ b1 = true ∧ t 1 + 1 < m ∧ t' 0 = 0 ∧ t' 1 = t 1 + 1 ∧ t' 2 = t 2) ∨ ((b0 = true → m ≤ t 0 + 1) ∧ (b1 = true → m ≤ t 1 + 1) ∧ b2 = true ∧ t 2 + 1 < m ∧ t' 0 = 0 ∧ t' 1 = 0 ∧ t' 2 = t 2 + 1))) ∨ (r = .inl (some (.int 0)) ∧ (b0 = true → m ≤ t 0 + 1) ∧ (b1 = true → m ≤ t 1 + 1) ∧ (b2 = true → m ≤ t 2 + 1)))) 2 [some (.ref 64), some (.int (mkB b0 b1 b2)), some (.int (nI m)), some (.int (nI (v + 1)))] [] h2 n 0 0) → et_M sc Y_M_nextChoice d 0 0 (fun r h' n' => n' = n ∧ (∀ k, k ≠ 75 → h' k = h k) ∧ ∃ va' : Nat → Int32, h' 75 = .inl (0, 3, .inl va') ∧ ((r = .inl (some (.int 1)) ∧ ∃ t' : Nat → Nat, (∀ v, v < 3 → va' v = nI (t' v)) ∧ ((b0 = true ∧ t 0 + 1 < m ∧ t' 0 = t 0 + 1 ∧ t' 1 = t 1 ∧ t' 2 = t 2) ∨ ((b0 = true → m ≤ t 0 + 1) ∧ b1 = true ∧ t 1 + 1 < m ∧ t' 0 = 0 ∧ t' 1 = t 1 + 1 ∧ t' 2 = t 2) ∨ ((b0 = true → m ≤ t 0 + 1) ∧ (b1 = true → m ≤ t 1 + 1) ∧ b2 = true ∧ t 2 + 1 < m ∧ t' 0 = 0 ∧ t' 1 = 0 ∧ t' 2 = t 2 + 1))) ∨ (r = .inl (some (.int 0)) ∧ (b0 = true → m ≤ t 0 + 1) ∧ (b1 = true → m ≤ t 1 + 1) ∧ (b2 = true → m ≤ t 2 + 1)))) 2 [some (.ref 64), some (.int (mkB b0 b1 b2)), some (.int (nI m)), some (.int (nI (v)))] [] hh n 0 0 := by
    intro v bit g tv hh hv hbit hg htv k75 fr K1 K2
    have k64 := (fr 64 (by decide)).trans h64
    refine et_iload_n (i := 3) d_M_nextChoice_2 rfl rfl ?_
    refine et_iconst (v := nI 3) d_M_nextChoice_3 (by decide) ?_
    refine et_icmp_ge (tgt := 51) d_M_nextChoice_4 (by decide) (fun q => absurd q (nI_ge (by omega) (by omega))) (fun _ => ?_)
    refine et_iload_n (i := 1) d_M_nextChoice_7 rfl rfl ?_
    refine et_iload_n (i := 3) d_M_nextChoice_8 rfl rfl ?_
    refine et_ishr d_M_nextChoice_9 ?_
    refine et_iconst (v := 1) d_M_nextChoice_10 (by decide) ?_
    refine et_iand d_M_nextChoice_11 ?_
    refine et_iconst (v := 1) d_M_nextChoice_12 (by decide) ?_
    refine et_icmp_ne (tgt := 45) d_M_nextChoice_13 (by decide) (fun q => ?_) (fun q => ?_)
    · refine et_iinc (lv' := [_, _, _, _]) d_M_nextChoice_45 rfl (v := nI (v + 1)) (nI_1 v) (by decide) rfl rfl ?_
      refine et_goto (tgt := 2) d_M_nextChoice_48 (by decide) ?_
      refine K2 hh g k75 fr (Or.inl ⟨?_, rfl⟩) (fun _ _ => rfl)
      cases bit with
      | false => rfl
      | true => exact absurd (hbit.mpr rfl) q
    · have hb := hbit.mp q
      refine et_aload_n (i := 0) d_M_nextChoice_16 rfl rfl ?_
      refine et_getf (ci := 7) 22 d_M_nextChoice_17 k64 rfl in_M (by decide) fl_M_44 rfl ?_
      refine et_iload_n (i := 3) d_M_nextChoice_20 rfl rfl ?_
      refine et_dup2 d_M_nextChoice_21 rfl rfl ?_
      refine et_ialn d_M_nextChoice_22 k75 (by omega) (by first | decide | omega) ?_
      rw [hg]
      refine et_iconst (v := 1) d_M_nextChoice_23 (by decide) ?_
      refine et_iadd d_M_nextChoice_24 ?_
      rw [nI_1]
      refine et_iasn d_M_nextChoice_25 k75 (by omega) (by first | decide | omega) ?_
      refine et_aload_n (i := 0) d_M_nextChoice_26 rfl rfl ?_
      refine et_getf (ci := 7) 22 d_M_nextChoice_27 ((va_ne (by decide)).trans k64) rfl in_M (by decide) fl_M_44 rfl ?_
      refine et_iload_n (i := 3) d_M_nextChoice_30 rfl rfl ?_
      refine et_ialn d_M_nextChoice_31 va_eq (by omega) (by first | decide | omega) ?_
      rw [pk_us]
      refine et_iload_n (i := 2) d_M_nextChoice_32 rfl rfl ?_
      refine et_icmp_ge (tgt := 38) d_M_nextChoice_33 (by decide) (fun p => ?_) (fun p => ?_)
      · have p2 : m ≤ tv + 1 := (nI_leI (by omega) (by omega)).mp p
        refine et_aload_n (i := 0) d_M_nextChoice_38 rfl rfl ?_
        refine et_getf (ci := 7) 22 d_M_nextChoice_39 ((va_ne (by decide)).trans k64) rfl in_M (by decide) fl_M_44 rfl ?_
        refine et_iload_n (i := 3) d_M_nextChoice_42 rfl rfl ?_
        refine et_iconst (v := nI 0) d_M_nextChoice_43 (by decide) ?_
        refine et_iasn d_M_nextChoice_44 va_eq (by omega) (by first | decide | omega) ?_
        refine et_iinc (lv' := [_, _, _, _]) d_M_nextChoice_45 rfl (v := nI (v + 1)) (nI_1 v) (by decide) rfl rfl ?_
        refine et_goto (tgt := 2) d_M_nextChoice_48 (by decide) ?_
        exact K2 _ _ va_eq (fun k hk => (va_ne hk).trans ((va_ne hk).trans (fr k hk))) (Or.inr ⟨hb, p2, pk_us⟩) (fun j hj => by rw [pk_un hj, pk_un hj])
      · have p2 : tv + 1 < m := Nat.lt_of_not_le fun z => p (nI_le z (by omega))
        refine et_iconst (v := 1) d_M_nextChoice_36 (by decide) ?_
        exact et_zret d_M_nextChoice_37 rfl rfl (Nat.le_refl _) (Nat.le_refl _) (K1 _ _ va_eq (fun k hk => (va_ne hk).trans (fr k hk)) hb p2 (pk_us) (fun j hj => pk_un hj))
  have t0 : t 0 ≤ 40 := by omega
  have t1 : t 1 ≤ 40 := by omega
  have t2 : t 2 ≤ 40 := by omega
  refine et_iconst (v := nI 0) d_M_nextChoice_0 (by decide) ?_
  refine et_istore_n (i := 3) (lv' := [_, _, _, _]) d_M_nextChoice_1 rfl (by decide) rfl rfl ?_
  refine step 0 b0 va (t 0) h (by decide) (mk_sh0 b0 b1 b2) (hva 0 (by decide)) t0 h75 (fun _ _ => rfl) (fun h2 g2 k75 fr hb hlt hg hj => ?_) (fun h2 g2 k75 fr hc hj => ?_)
  · refine ⟨rfl, fr, g2, k75, Or.inl ⟨rfl, gUp t 0 (t 0 + 1), fun v hv => ?_, Or.inl ⟨hb, hlt, gUp_s _ _ _, gUp_n _ _ (by decide), gUp_n _ _ (by decide)⟩⟩⟩
    by_cases e : v = 0
    · rw [e, gUp_s, hg]
    · rw [gUp_n _ _ e, hj v e, hva v hv]
  have c0 : b0 = true → m ≤ t 0 + 1 := fun z => by
    rcases hc with ⟨c, -⟩ | ⟨-, c, -⟩
    · rw [c] at z; cases z
    · exact c
  have d0 : g2 0 = nI 0 := by
    rcases hc with ⟨c, c'⟩ | ⟨-, -, c⟩
    · rw [c', hva 0 (by decide)]
      rcases a0 with ⟨z, -⟩ | ⟨-, z⟩
      · rw [c] at z; cases z
      · rw [z]
    · exact c
  refine step 1 b1 g2 (t 1) h2 (by decide) (mk_sh1 b0 b1 b2) (by rw [hj 1 (by decide)]; exact hva 1 (by decide)) t1 k75 fr (fun h3 g3 k75 fr hb hlt hg hj2 => ?_) (fun h3 g3 k75 fr hc2 hj2 => ?_)
  · refine ⟨rfl, fr, g3, k75, Or.inl ⟨rfl, gUp (gUp t 0 0) 1 (t 1 + 1), fun v hv => ?_, Or.inr (Or.inl ⟨c0, hb, hlt, (gUp_n _ _ (by decide)).trans (gUp_s _ _ _), gUp_s _ _ _, (gUp_n _ _ (by decide)).trans (gUp_n _ _ (by decide))⟩)⟩⟩
    by_cases e : v = 1
    · rw [e, gUp_s, hg]
    · rw [gUp_n _ _ e, hj2 v e]
      by_cases e0 : v = 0
      · rw [e0, gUp_s, d0]
      · rw [gUp_n _ _ e0, hj v e0, hva v hv]
  have c1 : b1 = true → m ≤ t 1 + 1 := fun z => by
    rcases hc2 with ⟨c, -⟩ | ⟨-, c, -⟩
    · rw [c] at z; cases z
    · exact c
  have d1 : g3 1 = nI 0 := by
    rcases hc2 with ⟨c, c'⟩ | ⟨-, -, c⟩
    · rw [c', hj 1 (by decide), hva 1 (by decide)]
      rcases a1 with ⟨z, -⟩ | ⟨-, z⟩
      · rw [c] at z; cases z
      · rw [z]
    · exact c
  refine step 2 b2 g3 (t 2) h3 (by decide) (mk_sh2 b0 b1 b2) (by rw [hj2 2 (by decide), hj 2 (by decide)]; exact hva 2 (by decide)) t2 k75 fr (fun h4 g4 k75 fr hb hlt hg hj3 => ?_) (fun h4 g4 k75 fr hc3 hj3 => ?_)
  · refine ⟨rfl, fr, g4, k75, Or.inl ⟨rfl, gUp (gUp (gUp t 0 0) 1 0) 2 (t 2 + 1), fun v hv => ?_, Or.inr (Or.inr ⟨c0, c1, hb, hlt, (gUp_n _ _ (by decide)).trans ((gUp_n _ _ (by decide)).trans (gUp_s _ _ _)), (gUp_n _ _ (by decide)).trans (gUp_s _ _ _), gUp_s _ _ _⟩)⟩⟩
    by_cases e : v = 2
    · rw [e, gUp_s, hg]
    · rw [gUp_n _ _ e, hj3 v e]
      by_cases e1 : v = 1
      · rw [e1, gUp_s, d1]
      · rw [gUp_n _ _ e1, hj2 v e1]
        by_cases e0 : v = 0
        · rw [e0, gUp_s, d0]
        · rw [gUp_n _ _ e0, hj v e0, hva v hv]
  have c2 : b2 = true → m ≤ t 2 + 1 := fun z => by
    rcases hc3 with ⟨c, -⟩ | ⟨-, c, -⟩
    · rw [c] at z; cases z
    · exact c
  refine et_iload_n (i := 3) d_M_nextChoice_2 rfl rfl ?_
  refine et_iconst (v := nI 3) d_M_nextChoice_3 (by decide) ?_
  refine et_icmp_ge (tgt := 51) d_M_nextChoice_4 (by decide) (fun _ => ?_) (fun q => absurd (nI_le (Nat.le_refl _) (by omega)) q)
  refine et_iconst (v := 0) d_M_nextChoice_51 (by decide) ?_
  exact et_zret d_M_nextChoice_52 rfl rfl (Nat.le_refl _) (Nat.le_refl _) ⟨rfl, fr, g4, k75, Or.inr ⟨rfl, c0, c1, c2⟩⟩
/-- the rules in the model's cells -/
def et_MR (rc : Nat) (ru : Nat → prul) (sd szs : Nat → Int32) : Prop := rc ≤ 6 ∧ ∀ r, r < rc → rOk (ru r).1 (ru r).2.1 (ru r).2.2 ∧ szs (2 * r) = nI (ru r).2.1 ∧ szs (2 * r + 1) = nI ((ru r).2.2 - ((ru r).2.1 + 1)) ∧ (∀ j, j < (ru r).2.1 → sd (14 * r + j) = (ru r).1 j) ∧ ∀ j, j < (ru r).2.2 - ((ru r).2.1 + 1) → sd (14 * r + 7 + j) = (ru r).1 ((ru r).2.1 + 1 + j)
/-- a match of the rule r -/
def okR (g0 : gr) (p : prul) (a : gact) : Prop := a.1 < gC g0 ∧ a.2.1 = sg p.1 p.2.2 (p.2.2 - (p.2.1 + 1)) ∧ gEval false 40 a.2.2 (sg p.1 p.2.1 p.2.1) (gI g0) = some ([a.1], gI g0) ∧ ∀ i, i < p.2.1 → et_isv (p.1 i) → a.2.2 (p.1 i - 97).toNatClampNeg < gC g0
theorem okR_okA {g0 : gr} {ru : Nat → prul} {rc r : Nat} {a : gact} (hr : r < rc) (h : okR g0 (ru r) a) : okA g0 ru rc a := ⟨r, hr, h⟩
/-- the choice that an action makes, at the variables of a first side -/
def chA (row : Nat → Int32) (e : Nat) (vs : Nat → Nat) (v : Nat) : Nat := if inF row (nI (97 + v)) e = true then vs v else 0
theorem inF_isv {row : Nat → Int32} {e v : Nat} (hv : v < 3) (h : inF row (nI (97 + v)) e = true) : ∃ i, i < e ∧ row i = nI (97 + v) ∧ et_isv (row i) ∧ (row i - 97).toNatClampNeg = v := by
  obtain ⟨i, h1, h2⟩ := inF_iff.mp h
  refine ⟨i, h1, h2, ?_, ?_⟩
  · rw [h2]
    rcases (show v = 0 ∨ v = 1 ∨ v = 2 by omega) with rfl | rfl | rfl <;> decide
  · rw [h2]
    rcases (show v = 0 ∨ v = 1 ∨ v = 2 by omega) with rfl | rfl | rfl <;> decide
theorem isv_inF {row : Nat → Int32} {e i : Nat} (hi : i < e) (h : et_isv (row i)) : inF row (nI (97 + (row i - 97).toNatClampNeg)) e = true := inF_iff.mpr ⟨i, hi, isv_nI h⟩
theorem chA_adm {row : Nat → Int32} {e : Nat} {vs : Nat → Nat} {C : Nat} (h : ∀ i, i < e → et_isv (row i) → vs (row i - 97).toNatClampNeg < C) : adm C (inF row 97 e) (inF row 98 e) (inF row 99 e) (chA row e vs) := by
  have key : ∀ v, v < 3 → (inF row (nI (97 + v)) e = true ∧ chA row e vs v < C ∨ inF row (nI (97 + v)) e = false ∧ chA row e vs v = 0) := by
    intro v hv
    unfold chA
    cases hi : inF row (nI (97 + v)) e with
    | false => exact Or.inr ⟨rfl, if_neg (by decide)⟩
    | true =>
      obtain ⟨i, h1, h2, h3, h4⟩ := inF_isv hv hi
      have := h i h1 h3
      rw [h4] at this
      exact Or.inl ⟨rfl, by rw [if_pos rfl]; exact this⟩
  exact adm_of ⟨key 0 (by decide), key 1 (by decide), key 2 (by decide)⟩
theorem adm_lt {row : Nat → Int32} {e C v : Nat} {t : Nat → Nat} (h : adm C (inF row 97 e) (inF row 98 e) (inF row 99 e) t) (hv : v < 3) (hi : inF row (nI (97 + v)) e = true) : t v < C := by
  obtain ⟨a0, a1, a2⟩ := adm_cut h
  rcases (show v = 0 ∨ v = 1 ∨ v = 2 by omega) with rfl | rfl | rfl
  · rcases a0 with ⟨-, z⟩ | ⟨z, -⟩
    · exact z
    · rw [show nI (97 + 0) = 97 from rfl, z] at hi; cases hi
  · rcases a1 with ⟨-, z⟩ | ⟨z, -⟩
    · exact z
    · rw [show nI (97 + 1) = 98 from rfl, z] at hi; cases hi
  · rcases a2 with ⟨-, z⟩ | ⟨z, -⟩
    · exact z
    · rw [show nI (97 + 2) = 99 from rfl, z] at hi; cases hi
theorem chA_eval {g : gr} {row : Nat → Int32} {e : Nat} {vs : Nat → Nat} : gEval false 40 (chA row e vs) (sg row e e) (gI g) = gEval false 40 vs (sg row e e) (gI g) := by
  refine gEval_vs fun c hc hv => ?_
  obtain ⟨j, -, j2, rfl⟩ := sg_mem (Nat.le_refl _) hc
  unfold chA
  rw [if_pos (isv_inF j2 hv)]
/-- all choices ahead of t are done -/
def dnA (g0 : gr) (p : prul) (A : List gact) (D : (Nat → Nat) → Prop) : Prop := ∀ th, adm (gC g0) (inF p.1 97 p.2.1) (inF p.1 98 p.2.1) (inF p.1 99 p.2.1) th → D th → ∀ c, gEval false 40 th (sg p.1 p.2.1 p.2.1) (gI g0) = some ([c], gI g0) → ∃ a ∈ A, a.1 = c ∧ a.2.1 = sg p.1 p.2.2 (p.2.2 - (p.2.1 + 1)) ∧ ∀ v, v < 3 → inF p.1 (nI (97 + v)) p.2.1 = true → a.2.2 v = th v
theorem dnA_all {g0 : gr} {p : prul} {A : List gact} {D : (Nat → Nat) → Prop} (hr : rOk p.1 p.2.1 p.2.2) (h : dnA g0 p A D) (hD : ∀ th, adm (gC g0) (inF p.1 97 p.2.1) (inF p.1 98 p.2.1) (inF p.1 99 p.2.1) th → D th) {a : gact} (ha : okR g0 p a) : ∃ a' ∈ A, sameA a a' := by
  obtain ⟨h1, h2, h3, h4⟩ := ha
  have ad := chA_adm h4
  obtain ⟨a', k1, k2, k3, k4⟩ := h _ ad (hD _ ad) a.1 (by rw [chA_eval]; exact h3)
  refine ⟨a', k1, k2, k3.trans h2.symm, fun c hc hv => ?_⟩
  rw [h2] at hc
  obtain ⟨j, j1, j2, rfl⟩ := sg_mem (by omega) hc
  obtain ⟨-, -, -, -, -, r6⟩ := hr
  have hi := r6 j (by omega) j2 hv
  have hi2 : inF p.1 (nI (97 + (p.1 j - 97).toNatClampNeg)) p.2.1 = true := by rw [← isv_nI hv]; exact hi
  rw [k4 _ (et_isv_in hv).1 hi2, chA, if_pos hi2]
set_option maxHeartbeats 4000000 in
set_option maxRecDepth 100000 in
theorem c_M_fit {sc : et_X} {h : Nat → et_MC} {d n : Nat} {th le a_ wr en al se rux rs : Int32} {dc ds : Int64} {g0 : gr} {ru : Nat → prul} {rc : Nat} {sd szs b74 b75 t76 t77 t78 : Nat → Int32} (r : Nat) (hrc : r < rc) (G0 : gG 40 g0) (hR : et_MR rc ru sd szs) (h66 : h 66 = .inl (0, 84, .inl sd)) (h67 : h 67 = .inl (0, 12, .inl szs)) (h76 : h 76 = .inl (0, 128, .inl t76)) (h77 : h 77 = .inl (0, 80, .inl t77)) (h78 : h 78 = .inl (0, 4800, .inl t78)) (T : et_TB g0 (gN g0) t76 t77 t78) (y : gx) (ch : Bool) (I0 : rdI 1000 g0 y) (hN : gN y.1 ≤ 47) (h64 : h 64 = et_Mo th le a_ wr en al se rux (nI (gN y.1)) (nI (gC y.1)) (bI ch) rs dc ds) (hg : et_mg y h) (h74 : h 74 = .inl (0, 62, .inl b74)) (h75 : h 75 = .inl (0, 3, .inl b75)) : et_Cn sc Y_M_fit (d + 4) [.ref 64, .int (nI r), .int (nI (gC g0))] h n 0 0 (fun r0 h' n' => r0 = .inl none ∧ n' = n ∧ (∀ k, (k < 64 ∨ (64 < k ∧ k < 68) ∨ k = 73 ∨ 75 < k) → h' k = h k) ∧ ∃ (A : List gact) (y' : gx) (ch' : Bool) (rs' : Int32), (∀ a ∈ A, okR g0 (ru r) a) ∧ runA 1000 A (y, ch) = some (y', ch') ∧ rdI 1000 g0 y' ∧ gN y'.1 ≤ 47 ∧ h' 64 = et_Mo th le a_ wr en al se rux (nI (gN y'.1)) (nI (gC y'.1)) (bI ch') rs' dc ds ∧ et_mg y' h' ∧ (∃ b, h' 74 = .inl (0, 62, .inl b)) ∧ (∃ b, h' 75 = .inl (0, 3, .inl b)) ∧ (40 < gN y'.1 ∨ ∀ a, okR g0 (ru r) a → ∃ a' ∈ A, sameA a a')) := by
  refine et_Cn.of 4 rfl rfl (by decide) mV_M_fit.1 ?_
  have hR0 := hR.1
  obtain ⟨rok, z1, z2, z3, z4⟩ := hR.2 r hrc
  obtain ⟨⟨m1, hw1⟩, ⟨m2, hw2⟩, r3, r4, r5, r6⟩ := id rok
  have o1 := G0.1.1
  have o2 := G0.1.2.1
  have z3' : ∀ j, j < (ru r).2.1 - 0 → sd (7 * (2 * r) + j) = (ru r).1 (0 + j) := fun j hj => by rw [show 7 * (2 * r) + j = 14 * r + j by omega, Nat.zero_add]; exact z3 j (by omega)
  have z4' : ∀ j, j < (ru r).2.2 - ((ru r).2.1 + 1) → sd (7 * (2 * r + 1) + j) = (ru r).1 ((ru r).2.1 + 1 + j) := fun j hj => by rw [show 7 * (2 * r + 1) + j = 14 * r + 7 + j by omega]; exact z4 j hj
  have loop : ∀ (K : Nat) (t : Nat → Nat) (A : List gact) (y1 : gx) (ch1 : Bool) (rs1 : Int32) (va sa : Nat → Int32) (hh : Nat → et_MC) (o5 o6 : Option Value), cme (gC g0) t < K → adm (gC g0) (inF (ru r).1 97 (ru r).2.1) (inF (ru r).1 98 (ru r).2.1) (inF (ru r).1 99 (ru r).2.1) t → (∀ v, v < 3 → va v = nI (t v)) → (∀ a ∈ A, okR g0 (ru r) a) → runA 1000 A (y, ch) = some (y1, ch1) → rdI 1000 g0 y1 → gN y1.1 ≤ 47 → hh 64 = et_Mo th le a_ wr en al se rux (nI (gN y1.1)) (nI (gC y1.1)) (bI ch1) rs1 dc ds → et_mg y1 hh → hh 74 = .inl (0, 62, .inl sa) → hh 75 = .inl (0, 3, .inl va) → (∀ k, (k < 64 ∨ (64 < k ∧ k < 68) ∨ k = 73 ∨ 75 < k) → hh k = h k) → dnA g0 (ru r) A (fun th => clt th t) → et_M sc Y_M_fit (d + 4) 0 0 (fun r0 h' n' => r0 = .inl none ∧ n' = n ∧ (∀ k, (k < 64 ∨ (64 < k ∧ k < 68) ∨ k = 73 ∨ 75 < k) → h' k = h k) ∧ ∃ (A : List gact) (y' : gx) (ch' : Bool) (rs' : Int32), (∀ a ∈ A, okR g0 (ru r) a) ∧ runA 1000 A (y, ch) = some (y', ch') ∧ rdI 1000 g0 y' ∧ gN y'.1 ≤ 47 ∧ h' 64 = et_Mo th le a_ wr en al se rux (nI (gN y'.1)) (nI (gC y'.1)) (bI ch') rs' dc ds ∧ et_mg y' h' ∧ (∃ b, h' 74 = .inl (0, 62, .inl b)) ∧ (∃ b, h' 75 = .inl (0, 3, .inl b)) ∧ (40 < gN y'.1 ∨ ∀ a, okR g0 (ru r) a → ∃ a' ∈ A, sameA a a')) 42 [some (.ref 64), some (.int (nI r)), some (.int (nI (gC g0))), some (.int (metB (ru r).1 (ru r).2.1)), some (.int 1), o5, o6] [] hh n 0 0 := by
    intro K
    induction K with
    | zero => intro t A y1 ch1 rs1 va sa hh o5 o6 hK; exact absurd hK (Nat.not_lt_zero _)
    | succ K ih =>
      intro t A y1 ch1 rs1 va sa hh o5 o6 hK hA hva hok hrun I1 hN1 k64 g1 k74 k75 fr dn
      refine et_iload d_M_fit_42 rfl ?_
      refine et_if_eq (tgt := 101) d_M_fit_44 (by decide) (fun q => absurd q (by decide)) (fun _ => ?_)
      refine et_aload_n (i := 0) d_M_fit_47 rfl rfl ?_
      refine et_getf (ci := 7) 11 d_M_fit_48 k64 rfl in_M (by decide) fl_M_119 rfl ?_
      refine et_bipush (v := 40) d_M_fit_51 (by decide) ?_
      refine et_icmp_gt (tgt := 101) d_M_fit_53 (by decide) (fun q => ?_) (fun q => ?_)
      · have q2 : 40 < gN y1.1 := Nat.lt_of_not_le fun z => absurd q (Int32.not_lt.mpr (nI_le (b := 40) z (by omega)))
        exact et_vret d_M_fit_101 rfl (Nat.le_refl _) (Nat.le_refl _) ⟨rfl, rfl, fr, A, y1, ch1, rs1, hok, hrun, I1, hN1, k64, g1, ⟨_, k74⟩, ⟨_, k75⟩, Or.inl q2⟩
      have q2 : gN y1.1 ≤ 40 := Nat.le_of_not_lt fun z => q (nI_lt (a := 40) z (by omega))
      have G1 := I1.1.cut q2
      have hcy : gC g0 ≤ gC y1.1 := I1.2.1.2.1
      have hvs1 : ∀ i, 0 ≤ i → i < (ru r).2.1 → et_isv ((ru r).1 i) → va ((ru r).1 i - 97).toNatClampNeg = nI (t ((ru r).1 i - 97).toNatClampNeg) ∧ t ((ru r).1 i - 97).toNatClampNeg < gC g0 := fun i _ i2 i3 => ⟨hva _ (et_isv_in i3).1, adm_lt hA (et_isv_in i3).1 (isv_inF i2 i3)⟩
      have hvs2 : ∀ i, (ru r).2.1 + 1 ≤ i → i < (ru r).2.2 → et_isv ((ru r).1 i) → va ((ru r).1 i - 97).toNatClampNeg = nI (t ((ru r).1 i - 97).toNatClampNeg) ∧ t ((ru r).1 i - 97).toNatClampNeg < gC y1.1 := fun i i1 i2 i3 => ⟨hva _ (et_isv_in i3).1, Nat.lt_of_lt_of_le (adm_lt hA (et_isv_in i3).1 (by rw [← isv_nI i3]; exact r6 i i1 i2 i3)) hcy⟩
      have tail : ∀ (A2 : List gact) (y2 : gx) (ch2 : Bool) (rs2 : Int32) (sa2 : Nat → Int32) (h2 : Nat → et_MC) (o5 o6 : Option Value), (∀ a ∈ A2, okR g0 (ru r) a) → runA 1000 A2 (y, ch) = some (y2, ch2) → rdI 1000 g0 y2 → gN y2.1 ≤ 47 → h2 64 = et_Mo th le a_ wr en al se rux (nI (gN y2.1)) (nI (gC y2.1)) (bI ch2) rs2 dc ds → et_mg y2 h2 → h2 74 = .inl (0, 62, .inl sa2) → h2 75 = .inl (0, 3, .inl va) → (∀ k, (k < 64 ∨ (64 < k ∧ k < 68) ∨ k = 73 ∨ 75 < k) → h2 k = h k) → dnA g0 (ru r) A2 (fun th => clt th t ∨ (th 0 = t 0 ∧ th 1 = t 1 ∧ th 2 = t 2)) → et_M sc Y_M_fit (d + 4) 0 0 (fun r0 h' n' => r0 = .inl none ∧ n' = n ∧ (∀ k, (k < 64 ∨ (64 < k ∧ k < 68) ∨ k = 73 ∨ 75 < k) → h' k = h k) ∧ ∃ (A : List gact) (y' : gx) (ch' : Bool) (rs' : Int32), (∀ a ∈ A, okR g0 (ru r) a) ∧ runA 1000 A (y, ch) = some (y', ch') ∧ rdI 1000 g0 y' ∧ gN y'.1 ≤ 47 ∧ h' 64 = et_Mo th le a_ wr en al se rux (nI (gN y'.1)) (nI (gC y'.1)) (bI ch') rs' dc ds ∧ et_mg y' h' ∧ (∃ b, h' 74 = .inl (0, 62, .inl b)) ∧ (∃ b, h' 75 = .inl (0, 3, .inl b)) ∧ (40 < gN y'.1 ∨ ∀ a, okR g0 (ru r) a → ∃ a' ∈ A, sameA a a')) 90 [some (.ref 64), some (.int (nI r)), some (.int (nI (gC g0))), some (.int (metB (ru r).1 (ru r).2.1)), some (.int 1), o5, o6] [] h2 n 0 0 := by
        intro A2 y2 ch2 rs2 sa2 h2 o5 o6 hok hrun I2 hN2 k64 g2 k74 k75 fr dn
        refine et_aload_n (i := 0) d_M_fit_90 rfl rfl ?_
        refine et_iload_n (i := 3) d_M_fit_91 rfl rfl ?_
        refine et_iload_n (i := 2) d_M_fit_92 rfl rfl ?_
        refine et_invV mV_M_nextChoice (As := [_, _]) rfl d_M_fit_93 lk_M_183 len_M_nextChoice k64 rfl (Nat.le_of_ble_eq_true rfl) (c_M_nextChoice (d := d + 3) (inF (ru r).1 97 (ru r).2.1) (inF (ru r).1 98 (ru r).2.1) (inF (ru r).1 99 (ru r).2.1) (gC g0) (by omega) k64 k75 hva hA) (Nat.le_refl _) (Nat.le_of_ble_eq_true rfl) (Nat.le_of_ble_eq_true rfl) (fun v h3 n' hp => ?_) (fun x h' n' hp => by obtain ⟨-, -, va', -, ⟨e, -⟩ | ⟨e, -⟩⟩ := hp <;> cases e)
        obtain ⟨hn2, fr3, va3, l75, hres⟩ := hp
        replace hn2 := hn2.symm
        subst hn2
        have l64 := (fr3 64 (by decide)).trans k64
        have l74 := (fr3 74 (by decide)).trans k74
        have g3 := g2.same (fun k a b => fr3 k (by omega))
        have fr4 : ∀ k, (k < 64 ∨ (64 < k ∧ k < 68) ∨ k = 73 ∨ 75 < k) → h3 k = h k := fun k hk => (fr3 k (by omega)).trans (fr k hk)
        rcases hres with ⟨hv, t', hva', hcs⟩ | ⟨hv, c0, c1, c2⟩
        · cases hv
          obtain ⟨n1, n2, n3⟩ := nc_step (by omega) hA hcs
          refine et_istore (lv' := [_, _, _, _, _, _, _]) d_M_fit_96 (by decide) rfl rfl ?_
          refine et_goto (tgt := 42) d_M_fit_98 (by decide) ?_
          exact ih t' A2 y2 ch2 rs2 va3 sa2 h3 o5 o6 (by omega) n1 hva' hok hrun I2 hN2 l64 g3 l74 l75 fr4 (fun th h1 h2 => dn th h1 (n3 th h1 h2))
        · cases hv
          refine et_istore (lv' := [_, _, _, _, _, _, _]) d_M_fit_96 (by decide) rfl rfl ?_
          refine et_goto (tgt := 42) d_M_fit_98 (by decide) ?_
          refine et_iload d_M_fit_42 rfl ?_
          refine et_if_eq (tgt := 101) d_M_fit_44 (by decide) (fun _ => ?_) (fun q => absurd rfl q)
          exact et_vret d_M_fit_101 rfl (Nat.le_refl _) (Nat.le_refl _) ⟨rfl, rfl, fr4, A2, y2, ch2, rs2, hok, hrun, I2, hN2, l64, g3, ⟨_, l74⟩, ⟨_, l75⟩, Or.inr fun a ha => dnA_all rok dn (nc_end c0 c1 c2) ha⟩
      refine et_aload_n (i := 0) d_M_fit_56 rfl rfl ?_
      refine et_iconst (v := nI 2) d_M_fit_57 (by decide) ?_
      refine et_iload_n (i := 1) d_M_fit_58 rfl rfl ?_
      refine et_imul d_M_fit_59 ?_
      rw [nI_mul]
      refine et_invV mV_M_tabled (As := [_]) rfl d_M_fit_60 lk_M_176 len_M_tabled k64 rfl (Nat.le_of_ble_eq_true rfl) (c_M_tabled (d := d + 1) (g := g0) (vs := t) 0 (ru r).2.1 G0 k64 k74 k75 ((fr 76 (by omega)).trans h76) ((fr 77 (by omega)).trans h77) ((fr 78 (by omega)).trans h78) T hw1 hvs1 (2 * r) (by omega) ((fr 66 (by omega)).trans h66) ((fr 67 (by omega)).trans h67) z1 (by omega) z3') (Nat.le_refl _) (Nat.le_of_ble_eq_true rfl) (Nat.le_of_ble_eq_true rfl) (fun v h2 n' hp => ?_) (fun x h' n' hp => by obtain ⟨-, -, -, ⟨c, -, -, e⟩ | ⟨-, e⟩⟩ := hp <;> cases e)
      obtain ⟨hn2, fr2, ⟨sa2, j74⟩, hres⟩ := hp
      replace hn2 := hn2.symm
      subst hn2
      have j64 := (fr2 64 (by decide)).trans k64
      have j75 := (fr2 75 (by decide)).trans k75
      have g2 := g1.same (fun k a b => fr2 k (by omega))
      have fr3 : ∀ k, (k < 64 ∨ (64 < k ∧ k < 68) ∨ k = 73 ∨ 75 < k) → h2 k = h k := fun k hk => (fr2 k (by omega)).trans (fr k hk)
      rw [Nat.sub_zero] at hres
      rcases hres with ⟨c, hc, ev, hv⟩ | ⟨ev, hv⟩
      · cases hv
        refine et_istore (lv' := [_, _, _, _, _, _, _]) d_M_fit_63 (by decide) rfl rfl ?_
        refine et_iload d_M_fit_65 rfl ?_
        refine et_if_lt (tgt := 90) d_M_fit_67 (by decide) (fun q => absurd q (nI_n0 (by omega))) (fun _ => ?_)
        refine et_aload_n (i := 0) d_M_fit_70 rfl rfl ?_
        refine et_iconst (v := nI 2) d_M_fit_71 (by decide) ?_
        refine et_iload_n (i := 1) d_M_fit_72 rfl rfl ?_
        refine et_imul d_M_fit_73 ?_
        rw [nI_mul]
        refine et_iconst (v := 1) d_M_fit_74 (by decide) ?_
        refine et_iadd d_M_fit_75 ?_
        rw [nI_1]
        refine et_iconst (v := 1) d_M_fit_76 (by decide) ?_
        refine et_invV mV_M_workSide (As := [_, _]) rfl d_M_fit_77 lk_M_179 len_M_workSide j64 rfl (Nat.le_of_ble_eq_true rfl) (c_M_workSide (d := d) (vs := t) true ((ru r).2.1 + 1) (ru r).2.2 G1 j64 j74 j75 g2 hw2 hvs2 (2 * r + 1) (by omega) ((fr3 66 (by omega)).trans h66) ((fr3 67 (by omega)).trans h67) z2 (by omega) z4') (Nat.le_refl _) (Nat.le_of_ble_eq_true rfl) (Nat.le_of_ble_eq_true rfl) (fun v h3 n' hp => ?_) (fun y h' n' hp => by obtain ⟨-, -, rs', sa', -, ⟨c, x', -, e, -⟩ | ⟨-, -, e, -⟩⟩ := hp <;> cases e)
        obtain ⟨hn2, fr4, rs3, sa3, l74, hres⟩ := hp
        replace hn2 := hn2.symm
        subst hn2
        rcases hres with ⟨b, y2, ev2, hv, l64, g3⟩ | ⟨-, e, -⟩
        rotate_left
        · cases e
        cases hv
        have oka : okR g0 (ru r) (c, sg (ru r).1 (ru r).2.2 ((ru r).2.2 - ((ru r).2.1 + 1)), t) := ⟨hc, rfl, ev, fun i i1 i2 => (hvs1 i (Nat.zero_le _) i1 i2).2⟩
        have hd : doA 1000 (c, sg (ru r).1 (ru r).2.2 ((ru r).2.2 - ((ru r).2.1 + 1)), t) (y1, ch1) = some (gJoin y2 c b, ch1 || decide (y2.2 c ≠ y2.2 b)) := by
          unfold doA
          show (match gEval true 1000 t (sg (ru r).1 (ru r).2.2 ((ru r).2.2 - ((ru r).2.1 + 1))) y1 with | some (b :: _, y) => _ | _ => none) = _
          rw [ev2]
        have hvg : ∀ i, (ru r).2.1 + 1 ≤ i → i < (ru r).2.2 → et_isv ((ru r).1 i) → t ((ru r).1 i - 97).toNatClampNeg < gC g0 := fun i i1 i2 i3 => adm_lt hA (et_isv_in i3).1 (by rw [← isv_nI i3]; exact r6 i i1 i2 i3)
        have ao : aOk g0 (c, sg (ru r).1 (ru r).2.2 ((ru r).2.2 - ((ru r).2.1 + 1)), t) := ⟨hc, (ru r).1, (ru r).2.1 + 1, (ru r).2.2, m2, rfl, hw2, hvg⟩
        obtain ⟨b', y2', w1, w2, w3, w4, w5, w6, w7, -⟩ := doA_inv (Nat.le_refl 1000) I1 ao hd
        have w1 : gEval true 1000 t (sg (ru r).1 (ru r).2.2 ((ru r).2.2 - ((ru r).2.1 + 1))) y1 = some ([b'], y2') := w1
        rw [ev2] at w1
        obtain ⟨rfl, rfl⟩ : b = b' ∧ y2 = y2' := by simpa using w1
        have I2 := doA_ok (Nat.le_refl 1000) I1 hc (show (c, sg (ru r).1 (ru r).2.2 ((ru r).2.2 - ((ru r).2.1 + 1)), t).2.1 = sg (ru r).1 (ru r).2.2 ((ru r).2.2 - ((ru r).2.1 + 1)) from rfl) hw2 hvg hd
        have nb := gEval_bd ev2
        rw [sg_length] at nb
        have nok2 : nOk y2 := fun q hq => by
          by_cases z : q < gC y1.1
          · rw [(w7 q).1 z]; exact Nat.lt_of_lt_of_le (I1.2.2.1 q z) w4.2.1
          · rw [(w7 q).2 (Nat.le_of_not_lt z) hq]; exact hq
        have hcy2 : c < gC y2.1 := Nat.lt_of_lt_of_le w6 w4.2.1
        have c104 := w3.1.2.1
        refine et_istore (lv' := [_, _, _, _, _, _, _]) d_M_fit_80 (by decide) rfl rfl ?_
        refine et_aload_n (i := 0) d_M_fit_82 rfl rfl ?_
        refine et_iload d_M_fit_83 rfl ?_
        refine et_iload d_M_fit_85 rfl ?_
        refine et_invV mV_M_joinClasses (As := [_, _]) rfl d_M_fit_87 lk_M_146 len_M_joinClasses l64 rfl (Nat.le_of_ble_eq_true rfl) (c_M_joinClasses (d := d + 3) ch1 c b (by omega) nok2 hcy2 w5 l64 g3) (Nat.le_refl _) (Nat.le_of_ble_eq_true rfl) (Nat.le_of_ble_eq_true rfl) (fun v h4 n' hp => ?_) (fun x h' n' hp => by cases hp.1)
        obtain ⟨hv, hn2, fr5, m64, g4⟩ := hp
        cases hv
        replace hn2 := hn2.symm
        subst hn2
        refine tail (A ++ [(c, sg (ru r).1 (ru r).2.2 ((ru r).2.2 - ((ru r).2.1 + 1)), t)]) (gJoin y2 c b) _ rs3 sa3 h4 _ _ (fun a ha => ?_) ?_ I2 (by show gN y2.1 ≤ 47; omega) m64 g4 ((fr5 74 (by decide) (by decide)).trans l74) ((fr5 75 (by decide) (by decide)).trans ((fr4 75 (by omega)).trans j75)) (fun k hk => (fr5 k (by omega) (by omega)).trans ((fr4 k (by omega)).trans (fr3 k hk))) (fun th h1 h2 c' h3 => ?_)
        · rcases List.mem_append.mp ha with z | z
          · exact hok a z
          · rw [List.mem_singleton.mp z]; exact oka
        · rw [runA_app hrun, runA, hd]; rfl
        · rcases h2 with z | ⟨za, zb, zc⟩
          · obtain ⟨a, k1, k2⟩ := dn th h1 z c' h3
            exact ⟨a, List.mem_append.mpr (Or.inl k1), k2⟩
          · have eq : ∀ v, v < 3 → th v = t v := fun v hv => by
              rcases (show v = 0 ∨ v = 1 ∨ v = 2 by omega) with rfl | rfl | rfl
              · exact za
              · exact zb
              · exact zc
            have ee : gEval false 40 th (sg (ru r).1 (ru r).2.1 (ru r).2.1) (gI g0) = gEval false 40 t (sg (ru r).1 (ru r).2.1 (ru r).2.1) (gI g0) := gEval_vs fun q _ hv => eq _ (et_isv_in hv).1
            rw [ee, ev] at h3
            have ec : c = c' := by simpa using h3
            exact ⟨_, List.mem_append.mpr (Or.inr (List.mem_singleton.mpr rfl)), ec, rfl, fun v hv _ => (eq v hv).symm⟩
      · cases hv
        refine et_istore (lv' := [_, _, _, _, _, _, _]) d_M_fit_63 (by decide) rfl rfl ?_
        refine et_iload d_M_fit_65 rfl ?_
        refine et_if_lt (tgt := 90) d_M_fit_67 (by decide) (fun _ => ?_) (fun q => absurd (by decide) q)
        refine tail A y1 ch1 rs1 sa2 h2 _ _ hok hrun I1 hN1 j64 g2 j74 j75 fr3 (fun th h1 h2 c' h3 => ?_)
        rcases h2 with z | ⟨za, zb, zc⟩
        · exact dn th h1 z c' h3
        · have ee : gEval false 40 th (sg (ru r).1 (ru r).2.1 (ru r).2.1) (gI g0) = gEval false 40 t (sg (ru r).1 (ru r).2.1 (ru r).2.1) (gI g0) := gEval_vs fun q _ hv => by
            rcases (show (q - 97).toNatClampNeg = 0 ∨ (q - 97).toNatClampNeg = 1 ∨ (q - 97).toNatClampNeg = 2 by have := (et_isv_in hv).1; omega) with w | w | w <;> rw [w]
            · exact za
            · exact zb
            · exact zc
          rw [ee, ev] at h3
          cases h3
  refine et_aload_n (i := 0) d_M_fit_0 rfl rfl ?_
  refine et_iconst (v := nI 2) d_M_fit_1 (by decide) ?_
  refine et_iload_n (i := 1) d_M_fit_2 rfl rfl ?_
  refine et_imul d_M_fit_3 ?_
  rw [nI_mul]
  refine et_invV mV_M_variablesOf (As := [_]) rfl d_M_fit_4 lk_M_173 len_M_variablesOf h64 rfl (Nat.le_of_ble_eq_true rfl) (c_M_variablesOf (d := d + 2) (row := (ru r).1) (e := (ru r).2.1) (2 * r) (by omega) h64 h66 h67 z1 r3 (fun j hj => by rw [show 7 * (2 * r) + j = 14 * r + j by omega]; exact z3 j hj)) (Nat.le_refl _) (Nat.le_of_ble_eq_true rfl) (Nat.le_of_ble_eq_true rfl) (fun v h' n' hp => ?_) (fun x h' n' hp => by cases hp.1)
  obtain ⟨hv, hn2, hh2⟩ := hp
  cases hv
  replace hh2 := hh2.symm
  subst hh2
  replace hn2 := hn2.symm
  subst hn2
  have zero : ∀ (s i : Nat) (va : Nat → Int32) (hh : Nat → et_MC), i + s = 3 → hh 75 = .inl (0, 3, .inl va) → (∀ k, k ≠ 75 → hh k = h k) → (∀ v, v < i → va v = nI 0) → et_M sc Y_M_fit (d + 4) 0 0 (fun r0 h' n' => r0 = .inl none ∧ n' = n ∧ (∀ k, (k < 64 ∨ (64 < k ∧ k < 68) ∨ k = 73 ∨ 75 < k) → h' k = h k) ∧ ∃ (A : List gact) (y' : gx) (ch' : Bool) (rs' : Int32), (∀ a ∈ A, okR g0 (ru r) a) ∧ runA 1000 A (y, ch) = some (y', ch') ∧ rdI 1000 g0 y' ∧ gN y'.1 ≤ 47 ∧ h' 64 = et_Mo th le a_ wr en al se rux (nI (gN y'.1)) (nI (gC y'.1)) (bI ch') rs' dc ds ∧ et_mg y' h' ∧ (∃ b, h' 74 = .inl (0, 62, .inl b)) ∧ (∃ b, h' 75 = .inl (0, 3, .inl b)) ∧ (40 < gN y'.1 ∨ ∀ a, okR g0 (ru r) a → ∃ a' ∈ A, sameA a a')) 11 [some (.ref 64), some (.int (nI r)), some (.int (nI (gC g0))), some (.int (metB (ru r).1 (ru r).2.1)), some (.int (nI i)), none, none] [] hh n 0 0 := by
    intro s
    induction s with
    | zero =>
      intro i va hh hi k75 fr hva
      obtain rfl : i = 3 := by omega
      have k64 := (fr 64 (by decide)).trans h64
      have k74 := (fr 74 (by decide)).trans h74
      refine et_iload d_M_fit_11 rfl ?_
      refine et_iconst (v := nI 3) d_M_fit_13 (by decide) ?_
      refine et_icmp_ge (tgt := 31) d_M_fit_14 (by decide) (fun _ => ?_) (fun q => absurd (nI_le (Nat.le_refl _) (by omega)) q)
      refine et_iload_n (i := 2) d_M_fit_31 rfl rfl ?_
      by_cases z : gC g0 = 0
      · rw [z]
        rw [show nI 0 = 0 from nI_0]
        refine et_if_le (tgt := 39) d_M_fit_32 (by decide) (fun _ => ?_) (fun q => absurd (by decide) q)
        refine et_iconst (v := 0) d_M_fit_39 (by decide) ?_
        refine et_istore (lv' := [_, _, _, _, _, _, _]) d_M_fit_40 (by decide) rfl rfl ?_
        refine et_iload d_M_fit_42 rfl ?_
        refine et_if_eq (tgt := 101) d_M_fit_44 (by decide) (fun _ => ?_) (fun q => absurd rfl q)
        exact et_vret d_M_fit_101 rfl (Nat.le_refl _) (Nat.le_refl _) ⟨rfl, rfl, fun k hk => fr k (by omega), [], y, ch, rs, (fun a ha => by cases ha), rfl, I0, hN, k64, hg.same (fun k a b => fr k (by omega)), ⟨_, k74⟩, ⟨_, k75⟩, Or.inr fun a ha => absurd ha.1 (by omega)⟩
      · refine et_if_le (tgt := 39) d_M_fit_32 (by decide) (fun q => absurd q (nI_nle (by omega) (by omega))) (fun _ => ?_)
        refine et_iconst (v := 1) d_M_fit_35 (by decide) ?_
        refine et_goto (tgt := 40) d_M_fit_36 (by decide) ?_
        refine et_istore (lv' := [_, _, _, _, _, _, _]) d_M_fit_40 (by decide) rfl rfl ?_
        refine loop (cme (gC g0) (fun _ => 0) + 1) (fun _ => 0) [] y ch rs va b74 hh none none (Nat.lt_succ_self _) (adm_of ⟨?_, ?_, ?_⟩) hva (fun a ha => by cases ha) rfl I0 hN k64 (hg.same (fun k a b => fr k (by omega))) k74 k75 (fun k hk => fr k (by omega)) (fun th h1 h2 => ?_)
        · cases inF (ru r).1 97 (ru r).2.1
          · exact Or.inr ⟨rfl, rfl⟩
          · exact Or.inl ⟨rfl, by omega⟩
        · cases inF (ru r).1 98 (ru r).2.1
          · exact Or.inr ⟨rfl, rfl⟩
          · exact Or.inl ⟨rfl, by omega⟩
        · cases inF (ru r).1 99 (ru r).2.1
          · exact Or.inr ⟨rfl, rfl⟩
          · exact Or.inl ⟨rfl, by omega⟩
        · have h2 : th 2 < 0 ∨ (th 2 = 0 ∧ (th 1 < 0 ∨ (th 1 = 0 ∧ th 0 < 0))) := h2
          omega
    | succ s ih =>
      intro i va hh hi k75 fr hva
      have k64 := (fr 64 (by decide)).trans h64
      refine et_iload d_M_fit_11 rfl ?_
      refine et_iconst (v := nI 3) d_M_fit_13 (by decide) ?_
      refine et_icmp_ge (tgt := 31) d_M_fit_14 (by decide) (fun q => absurd q (nI_ge (by omega) (by omega))) (fun _ => ?_)
      refine et_aload_n (i := 0) d_M_fit_17 rfl rfl ?_
      refine et_getf (ci := 7) 22 d_M_fit_18 k64 rfl in_M (by decide) fl_M_44 rfl ?_
      refine et_iload d_M_fit_21 rfl ?_
      refine et_iconst (v := nI 0) d_M_fit_23 (by decide) ?_
      refine et_iasn d_M_fit_24 k75 (by omega) (by first | decide | omega) ?_
      refine et_iinc (lv' := [_, _, _, _, _, _, _]) d_M_fit_25 rfl (v := nI (i + 1)) (nI_1 i) (by decide) rfl rfl ?_
      refine et_goto (tgt := 11) d_M_fit_28 (by decide) ?_
      refine ih (i + 1) (upd va i (nI 0)) _ (by omega) va_eq (fun k hk => (va_ne hk).trans (fr k hk)) (fun v hv => ?_)
      by_cases e : v = i
      · rw [e, pk_us]
      · rw [pk_un e]; exact hva v (by omega)
  refine et_istore_n (i := 3) (lv' := [_, _, _, _, _, _, _]) d_M_fit_7 rfl (by decide) rfl rfl ?_
  refine et_iconst (v := nI 0) d_M_fit_8 (by decide) ?_
  refine et_istore (lv' := [_, _, _, _, _, _, _]) d_M_fit_9 (by decide) rfl rfl ?_
  exact zero 3 0 b75 h (by decide) h75 (fun _ _ => rfl) (fun v hv => absurd hv (Nat.not_lt_zero _))
