section ETK
variable {sc : et_X} {Y : et_Y} {d mc ms : Nat} {Post : et_R → (Nat → et_MC) → Nat → Prop} {pc : Nat} {lv : List (Option Value)} {st : List Value} {h : Nat → et_MC} {n nc ns : Nat}
theorem et_nn {z : Int32} (hz : ¬ z < 0) : z.toInt = (z.toNatClampNeg : Int) := by
  have hz0 : (0 : Int) ≤ z.toInt := by
    have := Int32.not_lt.mp hz
    simpa using Int32.le_iff_toInt_le.mp this
  show z.toInt = ((z.toInt.toNat : Nat) : Int)
  omega
theorem et_copy {index k0 k1 n0 n1 : Nat} {f g : Nat → Int32} {sp dp z : Int32} (hdg : decode Y.2.1 pc = .ok (.invokestatic index, 3)) (w1 : Cond.methodLink Y.1.cls index arraycopyName ∈ et_W) (w2 : Cond.native arraycopyName ∈ et_W) (w3 : Cond.static arraycopyName ∈ et_W) (w4 : Cond.initialized "java/lang/System" ∈ et_W)
    (hh0 : h k0 = .inl (0, n0, .inl f)) (hh1 : h k1 = .inl (0, n1, .inl g)) (h1 : ¬ sp < 0) (h2 : ¬ dp < 0) (h3 : ¬ z < 0) (h4 : sp.toNatClampNeg + z.toNatClampNeg ≤ n0) (h5 : dp.toNatClampNeg + z.toNatClampNeg ≤ n1) (hsum : (st.map fun v => v.category).sum ≤ 8)
    (kk : et_M sc Y d mc ms Post (pc + 3) lv st (va_up h k1 (.inl (0, n1, .inl (va_cpy f g sp.toNatClampNeg dp.toNatClampNeg z.toNatClampNeg)))) n nc ns) : et_M sc Y d mc ms Post pc lv (.int z :: .int dp :: .ref k1 :: .int sp :: .ref k0 :: st) h n nc ns := by
  intro p l e R s m args below meth c B D dA ls H locs C hP hF hL hl T hT X
  obtain ⟨-, q0⟩ := hP.arr hh0
  obtain ⟨hk1, q1⟩ := hP.arr hh1
  have hc0 : T.heap[B + k0]? = some (vp_cell (dA 0) (n0, .inl f)) := by rw [hT]; exact q0
  have hc1 : T.heap[B + k1]? = some (vp_cell (dA 0) (n1, .inl g)) := by rw [hT]; exact q1
  obtain ⟨-, k9, hk9, cm9, hkk9⟩ := (C.kk.2 0 _ rfl).1 n0 (fun j => .int (f j))
  obtain ⟨vm', X', step⟩ := X.arraycopy C.1 C.own (C.hts _ w1) (C.hts _ w2) (C.hts _ w3) (C.hts _ w4) (srcPos := sp) (destPos := dp) (n := z) hc0 hc1
    (fun _ h => by cases h) (fun _ h => by cases h) (fun h => by cases h) (fun h => by cases h) hk9 hk9 hkk9 hkk9 rfl h1 h2 h3
    (by rw [et_nn h1, et_nn h3]; show ¬ _ > ((arrV (dA 0) n0 (fun j => .int (f j))).slots.size : Int); rw [arrV_size]; omega)
    (by rw [et_nn h2, et_nn h3]; show ¬ _ > ((arrV (dA 0) n1 (fun j => .int (g j))).slots.size : Int); rw [arrV_size]; omega)
    (fun vm₁ _ i hi => by
      have e9 : (vp_cell (dA 0) (n0, .inl f)).slots.getD (sp.toNatClampNeg + i) .null = .int (f (sp.toNatClampNeg + i)) := by
        show (arrV (dA 0) n0 (fun j => .int (f j))).slots.getD _ _ = _
        rw [Array.getD_eq_getD_getElem?, arrV_read _ _ (by omega)]
        rfl
      rw [e9]
      exact ⟨rfl, trivial⟩)
    (g := F0 m pc ls (.int z :: .int dp :: .ref (B + k1) :: .int sp :: .ref (B + k0) :: st.map (et_em B))) rfl (hl.1.trans C.2.2.1.symm) (rest := st.map (et_em B)) rfl (by rw [C.2.1]; exact hdg) (by rw [C.rm]; show 1 ≤ 8 + d; omega) (by rw [C.rm, et_sumc]; show 2 * 0 + _ + (7 + 11) ≤ 120 + 90 * d; omega)
  have ecp : copied (vp_cell (dA 0) (n0, .inl f)) (vp_cell (dA 0) (n1, .inl g)) sp dp z = vp_cell (dA 0) (n1, .inl (va_cpy f g sp.toNatClampNeg dp.toNatClampNeg z.toNatClampNeg)) := va_copied (fun z => .int z) (dA 0) (dA 0) f g h4
  rw [ecp] at X' step
  have hlt : B + k1 < H.size := (Array.getElem?_eq_some_iff.mp q1).1
  have oq : ∀ (x : Cell) (q : Nat), q ≠ B + k1 → (H.setIfInBounds (B + k1) x)[q]? = H[q]? := fun x q hq => by simp [Array.getElem?_setIfInBounds, Ne.symm hq]
  obtain ⟨t, a1, b1⟩ := kk p l e R s m args below meth c B D dA ls (H.setIfInBounds (B + k1) (vp_cell (dA 0) (n1, .inl (va_cpy f g sp.toNatClampNeg dp.toNatClampNeg z.toNatClampNeg)))) _ C
    (hP.put hk1 (show (H.setIfInBounds (B + k1) _)[B + k1]? = some _ by simp [Array.getElem?_setIfInBounds, hlt]; rfl) (by simp) (oq _)) (fun q hq => (oq _ q (et_ne hq)).trans (hF q hq)) (fun q hq => by
      rcases List.mem_append.mp hq with h9 | h9
      · exact hL q h9
      · obtain ⟨y, -, hy⟩ := List.mem_map.mp h9
        rw [← hy]
        exact Nat.le_add_right B k1) hl _ (by rw [← hT]; rfl) X'
  exact ⟨t, step t a1, b1⟩
/-- an array of objects, of rows -/
theorem et_ald3 {k N r : Nat} {f : Nat → Option Nat} {i : Int32} (hdg : decode Y.2.1 pc = .ok (.aaload, 1)) (hh : h k = .inl (3, N, .inr (.inr (.inr (.inr f))))) (hin : vp_in i N) (hr : f i.toNatClampNeg = some r) (kk : et_M sc Y d mc ms Post (pc + 1) lv (.ref r :: st) h n nc ns) : et_M sc Y d mc ms Post pc lv (.int i :: .ref k :: st) h n nc ns := by
  intro p l e R s m args below meth c B D dA ls H locs C hP hF hL hl
  have q1 : H[B + k]? = some (arrV (dA 3) N (fun j => va_rf ((f j).map (fun k => B + k)))) := (hP.arr hh).2
  have hlt : i.toNatClampNeg < N := Nat.not_le.mp fun q => hin (Or.inr q)
  exact W.aald (v := .ref (B + r)) (a := B + k) (rest := st.map (et_em B)) C.1 C.2.1 q1 ((C.kk.2 3 _ rfl).1 N (fun j => va_rf ((f j).map (fun k => B + k)))) rfl (fun q => by cases q) (by show ¬ (i < 0 ∨ (arrV _ _ _).slots.size ≤ _); rw [arrV_size]; exact hin) (by show (arrV _ _ (fun j => va_rf ((f j).map (fun k => B + k)))).slots[_]? = _; rw [arrV_read _ _ hlt, hr]; rfl) rfl rfl hdg (kk p l e R s m args below meth c B D dA ls H locs C hP hF hL hl)
theorem et_ald4 {k N r : Nat} {f : Nat → Option Nat} {i : Int32} (hdg : decode Y.2.1 pc = .ok (.aaload, 1)) (hh : h k = .inl (4, N, .inr (.inr (.inr (.inr f))))) (hin : vp_in i N) (hr : f i.toNatClampNeg = some r) (kk : et_M sc Y d mc ms Post (pc + 1) lv (.ref r :: st) h n nc ns) : et_M sc Y d mc ms Post pc lv (.int i :: .ref k :: st) h n nc ns := by
  intro p l e R s m args below meth c B D dA ls H locs C hP hF hL hl
  have q1 : H[B + k]? = some (arrV (dA 4) N (fun j => va_rf ((f j).map (fun k => B + k)))) := (hP.arr hh).2
  have hlt : i.toNatClampNeg < N := Nat.not_le.mp fun q => hin (Or.inr q)
  exact W.aald (v := .ref (B + r)) (a := B + k) (rest := st.map (et_em B)) C.1 C.2.1 q1 ((C.kk.2 4 _ rfl).1 N (fun j => va_rf ((f j).map (fun k => B + k)))) rfl (fun q => by cases q) (by show ¬ (i < 0 ∨ (arrV _ _ _).slots.size ≤ _); rw [arrV_size]; exact hin) (by show (arrV _ _ (fun j => va_rf ((f j).map (fun k => B + k)))).slots[_]? = _; rw [arrV_read _ _ hlt, hr]; rfl) rfl rfl hdg (kk p l e R s m args below meth c B D dA ls H locs C hP hF hL hl)
theorem et_ast3 {k N r ci : Nat} {f : Nat → Option Nat} {i : Int32} {fs : List Value} {Tc : u_T} {Nc : Nat} (hdg : decode Y.2.1 pc = .ok (.aastore, 1)) (hh : h k = .inl (3, N, .inr (.inr (.inr (.inr f))))) (hin : vp_in i N) (hr : h r = .inr (ci, fs)) (hc : et_cl[ci]? = some (et_Rn, Tc, Nc))
    (kk : et_M sc Y d mc ms Post (pc + 1) lv st (va_up h k (.inl (3, N, .inr (.inr (.inr (.inr (va_up f i.toNatClampNeg (some r)))))))) n nc ns) : et_M sc Y d mc ms Post pc lv (.ref r :: .int i :: .ref k :: st) h n nc ns := by
  intro p l e R s m args below meth c B D dA ls H locs C hP hF hL hl
  have hk := (hP.arr hh).1
  have q1 : H[B + k]? = some (arrV (dA 3) N (fun j => va_rf ((f j).map (fun k => B + k)))) := (hP.arr hh).2
  obtain ⟨-, cellV, g1, g2, g3, -⟩ := hP.obj hr hc
  have hlt : i.toNatClampNeg < N := Nat.not_le.mp fun q => hin (Or.inr q)
  have h0 : ¬ i < 0 := fun q => hin (Or.inl q)
  have hcls := (C.kk.1 ci _ hc).2
  obtain ⟨kA, comp, k1, k2, k3, -⟩ := (C.kk.2 3 _ rfl).2
  have hcomp : comp = D.1 ci := Option.some.inj (k3.symm.trans hcls.1)
  subst hcomp
  obtain ⟨kC, hkC, -⟩ := hcls.2
  refine W.aast (a := B + k) (v := B + r) (rest := st.map (et_em B)) C.1 C.2.1 q1 (fun q h => by cases h) (fun h => by cases h) k1 k2 rfl hkC ⟨h0, by show _ < (arrV _ _ _).slots.size; rw [arrV_size]; exact hlt⟩ g1 (fun q h => by rw [g3] at h; cases h) (by rw [g2]; exact hkC) (by rw [g2]; exact va_assign hcls) rfl rfl hdg fun H1 e1 e2 e3 => ?_
  refine kk p l e R s m args below meth c B D dA ls H1 _ C (hP.put hk ?_ e2 e3) (fun q hq => (e3 q (et_ne hq)).trans (hF q hq)) (fun q hq => ?_) hl
  · show H1[B + k]? = some (arrV (dA 3) N (fun j => va_rf ((va_up f i.toNatClampNeg (some r) j).map (fun k => B + k))))
    rw [e1]
    show some ((arrV (dA 3) N (fun j => va_rf ((f j).map (fun k => B + k)))).setSlot _ _) = _
    rw [arrV_store]
    congr 2
    funext q
    by_cases hq : q = i.toNatClampNeg
    · subst hq; simp [updV, va_up, va_rf]
    · simp [updV, va_up, hq]
  · rcases List.mem_append.mp hq with h1 | h1
    · exact hL q h1
    · rw [List.mem_singleton.mp h1]; exact Nat.le_add_right B k
theorem et_anew {index : Nat} {x : Int32} {N : Nat} (hdg : decode Y.2.1 pc = .ok (.anewarray index, 3)) (hlk : Cond.classLink Y.1.cls index et_Rn ∈ et_W) (hao : et_Rn ∈ et_AOS) (hx : ¬ x < 0) (hN : x.toNatClampNeg = N) (hb : N * 4 ≤ 536870912) (h1 : nc + 1 ≤ mc) (h2 : ns + N ≤ ms)
    (kk : et_M sc Y d mc ms Post (pc + 3) lv (.ref n :: st) (va_up h n (.inl (3, N, .inr (.inr (.inr (.inr (fun _ => none))))))) (n + 1) (nc + 1) (ns + N)) : et_M sc Y d mc ms Post pc lv (.int x :: st) h n nc ns := by
  intro p l e R s m args below meth c B D dA ls H locs C hP hF hL hl
  subst hN
  refine W.anew (rest := st.map (et_em B)) C.1 C.2.1 C.own (C.hts _ hlk) (va_AO.use (C.wd.2.2.2.2.1 _ hao)) rfl hdg rfl hx hb (by rw [C.rm]; exact h1) (by rw [C.rm]; exact h2) fun cA kA comp e1 e2 e3 e4 => ?_
  obtain ⟨kA', comp', k1, k2, k3, k4⟩ := (C.kk.2 3 _ rfl).2
  have hcA : cA = dA 3 := Option.some.inj (e1.symm.trans k4)
  subst hcA
  have hz : H.size = B + n := hP.1
  rw [hz]
  refine kk p l e R s m args below meth c B D dA ls _ locs C (hP.push (Or.inr ?_) (by simp) (fun q hq => by rw [Array.getElem?_push, if_neg (Nat.ne_of_lt hq)])) (fun q hq => by rw [Array.getElem?_push, if_neg (by omega)]; exact hF q hq) hL hl
  show (H.push _)[B + n]? = some (arrV (dA 3) _ (fun _ => .null))
  rw [← hz, ← arrV_new]
  simp
  rfl
end ETK
