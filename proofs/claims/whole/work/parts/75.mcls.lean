/-! ===== closing: twins are joined, one of them goes ===== -/
def mtw (x : gx) (i j : Nat) : Prop := gS x.1 i = gS x.1 j ∧ up x.2 (gL x.1 i) = up x.2 (gL x.1 j) ∧ up x.2 (gR x.1 i) = up x.2 (gR x.1 j)
theorem up_sub {q q' : Nat → Nat} (h : ∀ c c', q c = q c' → q' c = q' c') {l l' : Nat} (e : up q l = up q l') : up q' l = up q' l' := by
  cases l with
  | zero => cases l' with
    | zero => rfl
    | succ k => cases e
  | succ k => cases l' with
    | zero => cases e
    | succ k' =>
      have e : q k + 1 = q k' + 1 := e
      show q' k + 1 = q' k' + 1
      rw [h k k' (by omega)]
theorem rmI_lt {j n N : Nat} (hj : j < N) (hn : n < N - 1) : rmI j n < N ∧ rmI j n ≠ j := by
  unfold rmI
  split <;> omega
theorem cl_step {g0 : gr} {P : Nat → Nat → Prop} {x : gx} {i j : Nat} (ok0 : gBd 40 g0) (bd : gBd 40 x.1) (S : stI g0 P (gRen x)) (hj : j < gN x.1) (hij : i < j) (tw : mtw x i j) : gBd 40 (gRem (gJoin x (gH x.1 i) (gH x.1 j)) j).1 ∧ stI g0 P (gRen (gRem (gJoin x (gH x.1 i) (gH x.1 j)) j)) := by
  obtain ⟨s1, s2, s3, s4, s5, s6, s7, s8, s9⟩ := S
  obtain ⟨b1, b2, b3⟩ := bd
  obtain ⟨t1, t2, t3⟩ := tw
  have hi : i < gN x.1 := by omega
  have s1 : gC x.1 = gC g0 := s1
  have s2 : gN x.1 ≤ gN g0 := s2
  have nok : nOk x := s4
  have nid : nId x := s5
  have ha := (b3 i hi).1
  have hb := (b3 j hj).1
  obtain ⟨nok', nid'⟩ := gJoin_ok nok nid ha hb
  have sub : ∀ c c', x.2 c = x.2 c' → (gJoin x (gH x.1 i) (gH x.1 j)).2 c = (gJoin x (gH x.1 i) (gH x.1 j)).2 c' := fun c c' e => gJoin_sub e
  have bd' : gBd 40 (gRem (gJoin x (gH x.1 i) (gH x.1 j)) j).1 := by
    refine ⟨by show gN x.1 - 1 ≤ 40; omega, b2, fun n hn => ?_⟩
    have hn : n < gN x.1 - 1 := hn
    exact b3 _ (rmI_lt hj hn).1
  have im : ∀ k m, gIm x.2 g0 m (gRen x).1 k → gS x.1 k = gS g0 m ∧ up (gJoin x (gH x.1 i) (gH x.1 j)).2 (gL x.1 k) = up (gJoin x (gH x.1 i) (gH x.1 j)).2 (gL g0 m) ∧ up (gJoin x (gH x.1 i) (gH x.1 j)).2 (gR x.1 k) = up (gJoin x (gH x.1 i) (gH x.1 j)).2 (gR g0 m) ∧ (gJoin x (gH x.1 i) (gH x.1 j)).2 (gH x.1 k) = (gJoin x (gH x.1 i) (gH x.1 j)).2 (gH g0 m) := by
    rintro k m ⟨m1, m2, m3, m4⟩
    exact ⟨m1, up_sub sub m2, up_sub sub m3, sub _ _ m4⟩
  refine ⟨bd', s1, by show gN x.1 - 1 ≤ gN g0; omega, gRen_bd bd' nok', nok', nid', ?_, fun a b h => ?_, fun n hn => ?_, fun m hm => ?_⟩
  · have R := gCong.eqv g0 P
    refine gJoin_snd (C := gC g0) R s6 ?_ (s1 ▸ ha) (s1 ▸ hb)
    obtain ⟨mi, p1, p2, p3, p4, p5⟩ := s8 i hi
    obtain ⟨mj, q1, q2, q3, q4, q5⟩ := s8 j hj
    have p3 : up x.2 (gL x.1 i) = up x.2 (gL g0 mi) := p3
    have p4 : up x.2 (gR x.1 i) = up x.2 (gR g0 mi) := p4
    have q3 : up x.2 (gL x.1 j) = up x.2 (gL g0 mj) := q3
    have q4 : up x.2 (gR x.1 j) = up x.2 (gR g0 mj) := q4
    have p2 : gS x.1 i = gS g0 mi := p2
    have q2 : gS x.1 j = gS g0 mj := q2
    obtain ⟨o1, o2, o3⟩ := ok0.2.2 mi p1
    obtain ⟨r1, r2, r3⟩ := ok0.2.2 mj q1
    have c1 : gCong g0 P (gH x.1 i) (gH g0 mi) := s6 _ _ (s1 ▸ ha) o1 p5
    have c2 : gCong g0 P (gH x.1 j) (gH g0 mj) := s6 _ _ (s1 ▸ hb) r1 q5
    have c3 : gCong g0 P (gH g0 mi) (gH g0 mj) := gCong.congr g0 P mi mj p1 q1 (by rw [← p2, ← q2, t1]) (upR_of_upB s6 o2 r2 ((p3.symm.trans t2).trans q3)) (upR_of_upB s6 o3 r3 ((p4.symm.trans t3).trans q4))
    exact R.2.2 _ _ _ c1 (R.2.2 _ _ _ c3 (R.2.1 _ _ c2))
  · obtain ⟨h1, h2, h3⟩ := s7 a b h
    exact ⟨h1, h2, sub _ _ h3⟩
  · have hn : n < gN x.1 - 1 := hn
    obtain ⟨m, m1, m2⟩ := s8 (rmI j n) (rmI_lt hj hn).1
    exact ⟨m, m1, im _ _ m2⟩
  · obtain ⟨k, k1, k2⟩ := s9 m hm
    have k1 : k < gN x.1 := k1
    obtain ⟨w1, w2, w3, w4⟩ := im k m k2
    by_cases e : k = j
    · subst e
      refine ⟨i, by show i < gN x.1 - 1; omega, ?_⟩
      have er : rmI k i = i := by rw [rmI, if_pos hij]
      show gS x.1 (rmI k i) = _ ∧ up _ (gL x.1 (rmI k i)) = _ ∧ up _ (gR x.1 (rmI k i)) = _ ∧ _ = _
      rw [er]
      refine ⟨t1.trans w1, (up_sub sub t2).trans w2, (up_sub sub t3).trans w3, ?_⟩
      show (gJoin x (gH x.1 i) (gH x.1 k)).2 (gH x.1 (rmI k i)) = _
      rw [er]
      exact gJoin_eq.trans w4
    · by_cases e2 : k < j
      · have er : rmI j k = k := by rw [rmI, if_pos e2]
        refine ⟨k, by show k < gN x.1 - 1; omega, ?_⟩
        show gS x.1 (rmI j k) = _ ∧ up _ (gL x.1 (rmI j k)) = _ ∧ up _ (gR x.1 (rmI j k)) = _ ∧ (gJoin x (gH x.1 i) (gH x.1 j)).2 (gH x.1 (rmI j k)) = _
        rw [er]
        exact ⟨w1, w2, w3, w4⟩
      · have er : rmI j (k - 1) = k := by rw [rmI, if_neg (by omega)]; omega
        refine ⟨k - 1, by show k - 1 < gN x.1 - 1; omega, ?_⟩
        show gS x.1 (rmI j (k - 1)) = _ ∧ up _ (gL x.1 (rmI j (k - 1))) = _ ∧ up _ (gR x.1 (rmI j (k - 1))) = _ ∧ (gJoin x (gH x.1 i) (gH x.1 j)).2 (gH x.1 (rmI j (k - 1))) = _
        rw [er]
        exact ⟨w1, w2, w3, w4⟩
theorem cl_dis {x : gx} (h : ∀ i j, i < j → j < gN x.1 → ¬ mtw x i j) : gDis (gRen x).1 := by
  intro n m hn hm h1 h2 h3
  have hn : n < gN x.1 := hn
  have hm : m < gN x.1 := hm
  rcases Nat.lt_trichotomy n m with e | e | e
  · exact absurd ⟨h1, h2, h3⟩ (h n m e hm)
  · exact e
  · exact absurd ⟨h1.symm, h2.symm, h3.symm⟩ (h m n e hn)
