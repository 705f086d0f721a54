/-! ===== settling: from the joined classes to the quotient ===== -/
theorem up_up {q q' : Nat → Nat} {C l : Nat} (h : ∀ c, c < C → q' (q c) = q' c) (hl : l ≤ C) : up q' (up q l) = up q' l := by
  cases l with
  | zero => rfl
  | succ k => show q' (q k) + 1 = q' k + 1; rw [h k (by omega)]
theorem up_le {q : Nat → Nat} {C C' l : Nat} (h : ∀ c, c < C → q c < C') (hl : l ≤ C) : up q l ≤ C' := by
  cases l with
  | zero => exact Nat.zero_le _
  | succ k => exact h k (by omega)
def stI (g0 : gr) (P : Nat → Nat → Prop) (x : gx) : Prop :=
  gC x.1 = gC g0 ∧ gN x.1 ≤ gN g0 ∧ gBd 40 x.1 ∧ nOk x ∧ nId x ∧ (∀ a b, a < gC g0 → b < gC g0 → x.2 a = x.2 b → gCong g0 P a b) ∧ (∀ a b, P a b → a < gC g0 ∧ b < gC g0 ∧ x.2 a = x.2 b) ∧
  (∀ n, n < gN x.1 → ∃ m, m < gN g0 ∧ gIm x.2 g0 m x.1 n) ∧ ∀ m, m < gN g0 → ∃ n, n < gN x.1 ∧ gIm x.2 g0 m x.1 n
theorem gRen_bd {x : gx} (ok : gBd 40 x.1) (nok : nOk x) : gBd 40 (gRen x).1 := by
  obtain ⟨o1, o2, o3⟩ := ok
  refine ⟨o1, o2, fun n hn => ?_⟩
  obtain ⟨b1, b2, b3⟩ := o3 n hn
  exact ⟨nok _ b1, up_le nok b2, up_le nok b3⟩
theorem st_0 {x : gx} {P : Nat → Nat → Prop} (ok : gBd 40 x.1) (nok : nOk x) (nid : nId x) (h1 : ∀ a b, a < gC x.1 → b < gC x.1 → x.2 a = x.2 b → gCong x.1 P a b) (h2 : ∀ a b, P a b → a < gC x.1 ∧ b < gC x.1 ∧ x.2 a = x.2 b) : stI x.1 P (gRen x) :=
  ⟨rfl, Nat.le_refl _, gRen_bd ok nok, nok, nid, h1, h2, fun n hn => ⟨n, hn, rfl, rfl, rfl, rfl⟩, fun m hm => ⟨m, hm, rfl, rfl, rfl, rfl⟩⟩
theorem st_step {g0 : gr} {P : Nat → Nat → Prop} {x y : gx} {k : Nat} (ok0 : gBd 40 g0) (S : stI g0 P x) (I : mtI x (gN x.1) k y) : stI g0 P (gRen (gCut y k)) := by
  obtain ⟨s1, s2, s3, s4, s5, s6, s7, s8, s9⟩ := S
  obtain ⟨i1, i2, i3, i4, i5, i6, i7, i8, i9, i10, i11, i12⟩ := I
  have hxy : ∀ c, c < gC g0 → y.2 (x.2 c) = y.2 c := fun c hc => i10 _ _ (s4 c (by omega)) (by omega) (s5 c (by omega))
  have bd : gBd 40 (gCut y k).1 := by
    refine ⟨Nat.le_trans i3 s3.1, by show gC y.1 ≤ 40; rw [i2]; exact s3.2.1, fun j hj => ?_⟩
    obtain ⟨n, hn, h1, h2⟩ := i5 j hj
    show gH y.1 j < gC y.1 ∧ gL y.1 j ≤ gC y.1 ∧ gR y.1 j ≤ gC y.1
    rw [h2, h1.2.1, h1.2.2, i2]
    exact s3.2.2 n hn
  refine ⟨i2.trans s1, Nat.le_trans i3 s2, gRen_bd bd i8, i8, i9, fun a b ha hb => ?_, fun a b hab => ?_, fun j hj => ?_, fun m hm => ?_⟩
  · refine i11 _ (gCong.eqv g0 P) (fun a b ha hb e => s6 a b (by omega) (by omega) e) (fun n m hn hm ht => ?_) a b (by omega) (by omega)
    obtain ⟨n0, hn0, u1, u2, u3, u4⟩ := s8 n hn
    obtain ⟨m0, hm0, v1, v2, v3, v4⟩ := s8 m hm
    have c1 := ok0.2.2 n0 hn0
    have c2 := ok0.2.2 m0 hm0
    have hc : gCong g0 P (gH g0 n0) (gH g0 m0) := gCong.congr g0 P n0 m0 hn0 hm0 (by rw [← u1, ← v1]; exact ht.1) (upR_of_upB s6 c1.2.1 c2.2.1 (by rw [← u2, ← v2]; exact ht.2.1)) (upR_of_upB s6 c1.2.2 c2.2.2 (by rw [← u3, ← v3]; exact ht.2.2))
    have hn' : gCong g0 P (gH x.1 n) (gH g0 n0) := by
      rw [u4]
      exact s6 _ _ (by rw [← s1]; exact s4 _ (by omega)) c1.1 (s5 _ (by omega))
    have hm' : gCong g0 P (gH g0 m0) (gH x.1 m) := by
      rw [v4]
      exact s6 _ _ c2.1 (by rw [← s1]; exact s4 _ (by omega)) (s5 _ (by omega)).symm
    exact (gCong.eqv g0 P).2.2 _ _ _ hn' ((gCong.eqv g0 P).2.2 _ _ _ hc hm')
  · obtain ⟨ha, hb, h⟩ := s7 a b hab
    exact ⟨ha, hb, i10 a b (by omega) (by omega) h⟩
  · obtain ⟨n, hn, h1, h2⟩ := i5 j hj
    obtain ⟨m, hm, u1, u2, u3, u4⟩ := s8 n hn
    have c1 := ok0.2.2 m hm
    refine ⟨m, hm, h1.1.trans u1, ?_, ?_, ?_⟩
    · show up y.2 (gL y.1 j) = up y.2 (gL g0 m)
      rw [h1.2.1, u2, up_up hxy c1.2.1]
    · show up y.2 (gR y.1 j) = up y.2 (gR g0 m)
      rw [h1.2.2, u3, up_up hxy c1.2.2]
    · show y.2 (gH y.1 j) = y.2 (gH g0 m)
      rw [h2, u4, hxy _ c1.1]
  · obtain ⟨n, hn, u1, u2, u3, u4⟩ := s9 m hm
    obtain ⟨j, hj, h1, h2⟩ := i6 n hn
    have c1 := ok0.2.2 m hm
    refine ⟨j, hj, h1.1.trans u1, ?_, ?_, ?_⟩
    · show up y.2 (gL y.1 j) = up y.2 (gL g0 m)
      rw [h1.2.1, u2, up_up hxy c1.2.1]
    · show up y.2 (gR y.1 j) = up y.2 (gR g0 m)
      rw [h1.2.2, u3, up_up hxy c1.2.2]
    · show y.2 (gH y.1 j) = y.2 (gH g0 m)
      rw [h2, u4, hxy _ c1.1]
theorem st_end {g0 : gr} {P : Nat → Nat → Prop} {x y : gx} {k : Nat} (ok0 : gBd 40 g0) (S : stI g0 P x) (I : mtI x (gN x.1) k y) (hk : ¬ k < gN x.1) : stI g0 P (gCut y k) ∧ gDis (gCut y k).1 := by
  obtain ⟨s1, s2, s3, s4, s5, s6, s7, s8, s9⟩ := S
  obtain ⟨i1, i2, i3, i4, i5, i6, i7, i8, i9, i10, i11, i12⟩ := I
  have hkN : k = gN x.1 := by omega
  have hnm : y.2 = x.2 := funext (i12 hkN)
  have rep : ∀ n, n < gN x.1 → x.2 (gH x.1 n) = gH x.1 n := by
    intro n hn
    obtain ⟨m, hm, -, -, -, u4⟩ := s8 n hn
    have hc : gH g0 m < gC x.1 := by rw [s1]; exact (ok0.2.2 m hm).1
    rw [u4, s5 _ hc]
  refine ⟨⟨i2.trans s1, Nat.le_trans i3 s2, ⟨Nat.le_trans i3 s3.1, by show gC y.1 ≤ 40; rw [i2]; exact s3.2.1, fun j hj => ?_⟩, i8, i9, ?_, ?_, fun j hj => ?_, fun m hm => ?_⟩, fun a b ha hb e1 e2 e3 => i7 a b ha hb ⟨e1, e2, e3⟩⟩
  · obtain ⟨n, hn, h1, h2⟩ := i5 j hj
    show gH y.1 j < gC y.1 ∧ gL y.1 j ≤ gC y.1 ∧ gR y.1 j ≤ gC y.1
    rw [h2, h1.2.1, h1.2.2, i2]
    exact s3.2.2 n hn
  · show ∀ a b, _ → _ → y.2 a = y.2 b → _
    rw [hnm]
    exact s6
  · show ∀ a b, _ → _ ∧ _ ∧ y.2 a = y.2 b
    rw [hnm]
    exact s7
  · obtain ⟨n, hn, h1, h2⟩ := i5 j hj
    obtain ⟨m, hm, u1, u2, u3, u4⟩ := s8 n hn
    refine ⟨m, hm, h1.1.trans u1, ?_, ?_, ?_⟩
    · show gL y.1 j = up y.2 (gL g0 m)
      rw [hnm, h1.2.1, u2]
    · show gR y.1 j = up y.2 (gR g0 m)
      rw [hnm, h1.2.2, u3]
    · show gH y.1 j = y.2 (gH g0 m)
      rw [hnm, h2, u4]
  · obtain ⟨n, hn, u1, u2, u3, u4⟩ := s9 m hm
    obtain ⟨j, hj, h1, h2⟩ := i6 n hn
    obtain ⟨n', hn', -, h4⟩ := i5 j hj
    refine ⟨j, hj, h1.1.trans u1, ?_, ?_, ?_⟩
    · show gL y.1 j = up y.2 (gL g0 m)
      rw [hnm, h1.2.1, u2]
    · show gR y.1 j = up y.2 (gR g0 m)
      rw [hnm, h1.2.2, u3]
    · show gH y.1 j = y.2 (gH g0 m)
      rw [hnm] at h2 ⊢
      rw [h4, rep n' hn', rep n hn] at h2
      rw [h4, h2, u4]
/-- the classes are numbered anew -/
def rnP (g : gr) (q : Nat → Nat) (cnt : Nat) : Prop := cnt ≤ gN g ∧ (∀ n, n < gN g → q (gH g n) < cnt) ∧ (∀ n m, n < gN g → m < gN g → q (gH g n) = q (gH g m) → gH g n = gH g m) ∧ ∀ c, c < cnt → ∃ n, n < gN g ∧ q (gH g n) = c
def gNum (g : gr) (q : Nat → Nat) (cnt : Nat) : gr := (gS g, fun n => up q (gL g n), fun n => up q (gR g n), fun n => q (gH g n), gN g, cnt)
theorem up_inj {q : Nat → Nat} {A : Nat → Prop} (h : ∀ a b, A a → A b → q a = q b → a = b) {l l' : Nat} (hl : ∀ k, l = k + 1 → A k) (hl' : ∀ k, l' = k + 1 → A k) (e : up q l = up q l') : l = l' := by
  cases l <;> cases l'
  · rfl
  · simp [up] at e
  · simp [up] at e
  · rename_i a b
    have e' : q a = q b := by simpa [up] using e
    rw [h a b (hl a rfl) (hl' b rfl) e']
theorem st_quot {g0 : gr} {P : Nat → Nat → Prop} {x : gx} {q : Nat → Nat} {cnt : Nat} (ok0 : gBd 40 g0) (sur : gSur g0) (S : stI g0 P x) (dis : gDis x.1) (hq : rnP x.1 q cnt) : gQuot g0 P (gNum x.1 q cnt) := by
  obtain ⟨s1, s2, s3, s4, s5, s6, s7, s8, s9⟩ := S
  obtain ⟨q1, q2, q3, q4⟩ := hq
  -- the name of a class is the home of a node
  have hom : ∀ c, c < gC g0 → ∃ n, n < gN x.1 ∧ gH x.1 n = x.2 c := by
    intro c hc
    obtain ⟨m, hm, e⟩ := sur c hc
    obtain ⟨n, hn, -, -, -, u4⟩ := s9 m hm
    exact ⟨n, hn, by rw [u4, e]⟩
  have inj : ∀ a b, (∃ c, c < gC g0 ∧ a = x.2 c) → (∃ c, c < gC g0 ∧ b = x.2 c) → q a = q b → a = b := by
    rintro a b ⟨c, hc, rfl⟩ ⟨c', hc', rfl⟩ e
    obtain ⟨n, hn, e1⟩ := hom c hc
    obtain ⟨n', hn', e2⟩ := hom c' hc'
    rw [← e1, ← e2] at e ⊢
    exact q3 n n' hn hn' e
  have part : ∀ l, l ≤ gC g0 → ∀ k, up x.2 l = k + 1 → ∃ c, c < gC g0 ∧ k = x.2 c := by
    intro l hl k e
    cases l with
    | zero => simp [up] at e
    | succ c => exact ⟨c, by omega, by simp [up] at e; exact e.symm⟩
  refine ⟨fun c => q (x.2 c), fun c hc => ?_, fun a b ha hb => ⟨fun e => ?_, fun e => ?_⟩, fun n hn => ?_, fun n hn => ?_, fun n m hn hm e1 e2 e3 => ?_, fun c hc => q4 c hc, q1, s2⟩
  · obtain ⟨n, hn, e⟩ := hom c hc
    show q (x.2 c) < cnt
    rw [← e]
    exact q2 n hn
  · exact s6 a b ha hb (inj _ _ ⟨a, ha, rfl⟩ ⟨b, hb, rfl⟩ e)
  · have hR := e (fun a b => (a < gC g0 ∧ b < gC g0 ∧ x.2 a = x.2 b) ∨ a = b) ⟨fun a => Or.inr rfl, fun a b h => ?_, fun a b c h h' => ?_⟩ (fun a b h => Or.inl (s7 a b h)) (fun n m hn hm h1 h2 h3 => ?_)
    · rcases hR with h | h
      · show q (x.2 a) = q (x.2 b)
        rw [h.2.2]
      · show q (x.2 a) = q (x.2 b)
        rw [h]
    · rcases h with ⟨h1, h2, h3⟩ | h
      · exact Or.inl ⟨h2, h1, h3.symm⟩
      · exact Or.inr h.symm
    · rcases h with ⟨h1, h2, h3⟩ | h
      · rcases h' with ⟨h4, h5, h6⟩ | h'
        · exact Or.inl ⟨h1, h5, h3.trans h6⟩
        · subst h'; exact Or.inl ⟨h1, h2, h3⟩
      · subst h; exact h'
    · obtain ⟨n', hn', u1, u2, u3, u4⟩ := s9 n hn
      obtain ⟨m', hm', v1, v2, v3, v4⟩ := s9 m hm
      have ul : ∀ l l', upR (fun a b => (a < gC g0 ∧ b < gC g0 ∧ x.2 a = x.2 b) ∨ a = b) l l' → up x.2 l = up x.2 l' := by
        intro l l' h
        cases l <;> cases l'
        · rfl
        · exact h.elim
        · exact h.elim
        · rcases h with h | h
          · show _ + 1 = _ + 1; rw [h.2.2]
          · rw [h]
      have e : n' = m' := dis n' m' hn' hm' (by rw [u1, v1, h1]) (by rw [u2, v2, ul _ _ h2]) (by rw [u3, v3, ul _ _ h3])
      exact Or.inl ⟨(ok0.2.2 n hn).1, (ok0.2.2 m hm).1, by rw [← u4, ← v4, e]⟩
  · obtain ⟨n', hn', u1, u2, u3, u4⟩ := s9 n hn
    refine ⟨n', hn', u1, ?_, ?_, ?_⟩
    · show up q (gL x.1 n') = up (fun c => q (x.2 c)) (gL g0 n)
      rw [u2]
      cases gL g0 n <;> rfl
    · show up q (gR x.1 n') = up (fun c => q (x.2 c)) (gR g0 n)
      rw [u3]
      cases gR g0 n <;> rfl
    · show q (gH x.1 n') = q (x.2 (gH g0 n))
      rw [u4]
  · obtain ⟨m, hm, u1, u2, u3, u4⟩ := s8 n hn
    refine ⟨m, hm, u1, ?_, ?_, ?_⟩
    · show up q (gL x.1 n) = up (fun c => q (x.2 c)) (gL g0 m)
      rw [u2]
      cases gL g0 m <;> rfl
    · show up q (gR x.1 n) = up (fun c => q (x.2 c)) (gR g0 m)
      rw [u3]
      cases gR g0 m <;> rfl
    · show q (gH x.1 n) = q (x.2 (gH g0 m))
      rw [u4]
  · obtain ⟨n0, hn0, u1, u2, u3, u4⟩ := s8 n hn
    obtain ⟨m0, hm0, v1, v2, v3, v4⟩ := s8 m hm
    have c1 := ok0.2.2 n0 hn0
    have c2 := ok0.2.2 m0 hm0
    exact dis n m hn hm e1 (up_inj inj (fun k e => part _ c1.2.1 k (u2 ▸ e)) (fun k e => part _ c2.2.1 k (v2 ▸ e)) e2) (up_inj inj (fun k e => part _ c1.2.2 k (u3 ▸ e)) (fun k e => part _ c2.2.2 k (v3 ▸ e)) e3)
