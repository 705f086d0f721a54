/-! ===== class and model side by side ===== -/
theorem fw_same {f f' : Nat → Int32} {sz : Nat} (h : ∀ i, i < sz → f' i = f i) {two pat : Bool} : ∀ {t i need mid : Nat}, i + t ≤ sz → mid ≤ i → fwN f' two pat t i need mid = fwN f two pat t i need mid
  | 0, i, need, mid, _, _ => rfl
  | t + 1, i, need, mid, h1, h2 => by
    have hp : ptI f' pat mid i = ptI f pat mid i := by
      unfold ptI prI
      rw [h i (by omega), inF_same (f := f') (g := f) (s := f i) (k := mid - 1) (fun j hj => h j (by omega))]
    rw [fwN, fwN, hp, h i (by omega), fw_same h (by omega) (Nat.le_refl _), fw_same h (by omega) (by omega)]
theorem fw_0 {f f' : Nat → Int32} {sz : Nat} (h : ∀ i, i < sz → f' i = f i) (two pat : Bool) : fwN f' two pat sz 0 1 0 = fwN f two pat sz 0 1 0 := fw_same h (by omega) (Nat.le_refl _)
theorem sg_same {f f' : Nat → Int32} {sz to : Nat} (h : ∀ i, i < sz → f' i = f i) (ht : to ≤ sz) : ∀ {k : Nat}, k ≤ to → sg f' to k = sg f to k
  | 0, _ => rfl
  | k + 1, hk => by rw [sg, sg, h _ (by omega), sg_same h ht (by omega)]
theorem et_RU.same2 {k : Nat} {row : Nat → Int32} {e len : Nat} {h h' : Nat → et_MC} (H : et_RU k row e len h) (f : ∀ q, k ≤ q → q ≤ k + 3 → h' q = h q) : et_RU k row e len h' := by
  obtain ⟨h1, h2, ⟨sp, h3, h4⟩, bd, h5, h6⟩ := H
  exact ⟨(f _ (by omega) (by omega)).trans h1, (f _ (by omega) (by omega)).trans h2, ⟨sp, (f _ (by omega) (by omega)).trans h3, h4⟩, bd, (f _ (by omega) (by omega)).trans h5, h6⟩
/-- the class's half -/
def et_JE (f : Nat → Int32) (sz : Nat) (wp : Int32) (g : gr) (rc : Nat) (ru : Nat → prul) (p18 : Nat → Int32) (n : Nat) (h : Nat → et_MC) : Prop := 85 ≤ n ∧ h 0 = .inr (6, [.ref 1, .ref 3, .ref 10, .ref 13, .ref 17, .ref 63, .int (nI rc)]) ∧ et_EC f sz wp (gI g) h ∧ et_RO h ∧ (∃ kr rr, et_RP rc ru kr rr h ∧ ∀ r, r < rc → kr r + 4 ≤ n) ∧ et_CC p18 h
/-- the model's half -/
def et_JM (th : Int32) (f : Nat → Int32) (sz : Nat) (wp : Int32) (g : gr) (rc : Nat) (ru : Nat → prul) (p79 : Nat → Int32) (h : Nat → et_MC) : Prop := et_ME th f sz wp (nI rc) g h ∧ (∃ sd szs, et_MR rc ru sd szs ∧ h 66 = .inl (0, 84, .inl sd) ∧ h 67 = .inl (0, 12, .inl szs)) ∧ (∃ b, h 76 = .inl (0, 128, .inl b)) ∧ (∃ b, h 77 = .inl (0, 80, .inl b)) ∧ (∃ b, h 78 = .inl (0, 4800, .inl b)) ∧ et_MB p79 h
theorem et_RP.same {rc : Nat} {ru : Nat → prul} {kr : Nat → Nat} {rr : Nat → Option Nat} {h h' : Nat → et_MC} {n : Nat} (H : et_RP rc ru kr rr h) (hn : ∀ r, r < rc → kr r + 4 ≤ n) (e : ∀ k, k = 63 ∨ (85 ≤ k ∧ k < n) → h' k = h k) : et_RP rc ru kr rr h' := by
  obtain ⟨h1, h2, h3⟩ := H
  refine ⟨h1, (e 63 (Or.inl rfl)).trans h2, fun r hr => ?_⟩
  obtain ⟨p1, p2, p3, p4⟩ := h3 r hr
  have := hn r hr
  exact ⟨p1, p2, p3, p4.same2 (fun q a b => e q (by omega))⟩
theorem et_EC.same {f : Nat → Int32} {sz : Nat} {wp : Int32} {x : gx} {h h' : Nat → et_MC} (H : et_EC f sz wp x h) (e : ∀ k, k ≤ 12 → h' k = h k) : et_EC f sz wp x h' := by
  obtain ⟨⟨rc, h0⟩, ⟨md, h1⟩, h2, h3, h10, ⟨va, h11⟩, st, h12⟩ := H
  exact ⟨⟨rc, (e 0 (by decide)).trans h0⟩, ⟨md, (e 1 (by decide)).trans h1⟩, (e 2 (by decide)).trans h2, h3.same (fun k a b => e k (by omega)), (e 10 (by decide)).trans h10, ⟨va, (e 11 (by decide)).trans h11⟩, st, (e 12 (by decide)).trans h12⟩
theorem et_RO.same {h h' : Nat → et_MC} (H : et_RO h) (e : ∀ k, 10 ≤ k → k ≤ 16 → h' k = h k) : et_RO h' := by
  obtain ⟨h1, ⟨a, h2⟩, ⟨b, h3⟩, ⟨c, h4⟩, ⟨d, h5⟩, ⟨i, h6⟩, j, h7⟩ := H
  exact ⟨(e 10 (by decide) (by decide)).trans h1, ⟨a, (e 11 (by decide) (by decide)).trans h2⟩, ⟨b, (e 12 (by decide) (by decide)).trans h3⟩, ⟨c, (e 13 (by decide) (by decide)).trans h4⟩, ⟨d, (e 14 (by decide) (by decide)).trans h5⟩, ⟨i, (e 15 (by decide) (by decide)).trans h6⟩, j, (e 16 (by decide) (by decide)).trans h7⟩
theorem et_JE.keep {f : Nat → Int32} {sz : Nat} {wp : Int32} {g : gr} {rc : Nat} {ru : Nat → prul} {p18 : Nat → Int32} {n n' : Nat} {h h' : Nat → et_MC} (H : et_JE f sz wp g rc ru p18 n h) (hn : n ≤ n') (e : ∀ k, k < 64 ∨ (85 ≤ k ∧ k < n) → h' k = h k) : et_JE f sz wp g rc ru p18 n' h' := by
  obtain ⟨h1, h2, h3, h4, ⟨kr, rr, h5, h6⟩, h7⟩ := H
  exact ⟨Nat.le_trans h1 hn, (e 0 (by omega)).trans h2, h3.same (fun k hk => e k (by omega)), h4.same (fun k a b => e k (by omega)), ⟨kr, rr, h5.same h6 (fun k hk => e k (by omega)), fun r hr => Nat.le_trans (h6 r hr) hn⟩, h7.same (fun k a b => e k (by omega))⟩
theorem et_JE.keep2 {f : Nat → Int32} {sz : Nat} {wp : Int32} {g : gr} {rc : Nat} {ru : Nat → prul} {p18 p18' : Nat → Int32} {n : Nat} {h h' : Nat → et_MC} (H : et_JE f sz wp g rc ru p18 n h) (e : ∀ k, (k < 17 ∨ 62 < k) → h' k = h k) (hC : et_CC p18' h') : et_JE f sz wp g rc ru p18' n h' := by
  obtain ⟨h1, h2, h3, h4, ⟨kr, rr, h5, h6⟩, h7⟩ := H
  exact ⟨h1, (e 0 (by omega)).trans h2, h3.same (fun k hk => e k (by omega)), h4.same (fun k a b => e k (by omega)), ⟨kr, rr, h5.same h6 (fun k hk => e k (by omega)), h6⟩, hC⟩
/-- after a call that reads the text or the graph -/
theorem et_JE.fr {f f2 : Nat → Int32} {sz sz2 : Nat} {wp wp2 : Int32} {g g2 : gr} {rc : Nat} {ru : Nat → prul} {p18 : Nat → Int32} {n n' : Nat} {h h' : Nat → et_MC} (H : et_JE f sz wp g rc ru p18 n h) (hn : n ≤ n') (e : ∀ k, (k = 0 ∨ k = 11 ∨ (12 < k ∧ k < 18) ∨ 62 < k) → k ≠ n → h' k = h k) (hE : et_EC f2 sz2 wp2 (gI g2) h') (hC : et_CC p18 h') : et_JE f2 sz2 wp2 g2 rc ru p18 n' h' := by
  obtain ⟨h1, h2, h3, ⟨p1, ⟨a, p2⟩, ⟨b, p3⟩, ⟨c, p4⟩, ⟨d, p5⟩, ⟨i, p6⟩, j, p7⟩, ⟨kr, rr, h5, h6⟩, h7⟩ := H
  refine ⟨Nat.le_trans h1 hn, (e 0 (by omega) (by omega)).trans h2, hE, ?_, ⟨kr, rr, h5.same h6 (fun k hk => e k (by omega) (by omega)), fun r hr => Nat.le_trans (h6 r hr) hn⟩, hC⟩
  obtain ⟨-, -, -, -, q10, q11, q12⟩ := hE
  exact ⟨q10, q11, q12, ⟨c, (e 13 (by omega) (by omega)).trans p4⟩, ⟨d, (e 14 (by omega) (by omega)).trans p5⟩, ⟨i, (e 15 (by omega) (by omega)).trans p6⟩, j, (e 16 (by omega) (by omega)).trans p7⟩
theorem et_JE.fr0 {f f2 : Nat → Int32} {sz sz2 : Nat} {wp wp2 : Int32} {g g2 : gr} {rc : Nat} {ru : Nat → prul} {p18 : Nat → Int32} {n n' : Nat} {h h' : Nat → et_MC} (H : et_JE f sz wp g rc ru p18 n h) (hn : n ≤ n') (e : et_fr n h h') (hE : et_EC f2 sz2 wp2 (gI g2) h') : et_JE f2 sz2 wp2 g2 rc ru p18 n' h' :=
  H.fr hn (fun k a b => e k (by omega) b) hE (H.2.2.2.2.2.same (fun k a b => e k (by omega) (by have := H.1; omega)))
theorem et_ME.same {th : Int32} {f : Nat → Int32} {sz : Nat} {wp ru : Int32} {g : gr} {h h' : Nat → et_MC} (H : et_ME th f sz wp ru g h) (e : ∀ k, 64 ≤ k → k ≤ 75 → h' k = h k) : et_ME th f sz wp ru g h' := by
  obtain ⟨⟨a, b, c, d, u, i, j, l, h64⟩, h65, hg, ⟨b73, h73⟩, ⟨b74, h74⟩, b75, h75⟩ := H
  exact ⟨⟨a, b, c, d, u, i, j, l, (e 64 (by decide) (by decide)).trans h64⟩, (e 65 (by decide) (by decide)).trans h65, hg.same (fun k a b => e k (by omega) (by omega)), ⟨b73, (e 73 (by decide) (by decide)).trans h73⟩, ⟨b74, (e 74 (by decide) (by decide)).trans h74⟩, b75, (e 75 (by decide) (by decide)).trans h75⟩
theorem et_JM.keep {th : Int32} {f : Nat → Int32} {sz : Nat} {wp : Int32} {g : gr} {rc : Nat} {ru : Nat → prul} {p79 : Nat → Int32} {h h' : Nat → et_MC} (H : et_JM th f sz wp g rc ru p79 h) (e : ∀ k, 64 ≤ k → k ≤ 83 → h' k = h k) : et_JM th f sz wp g rc ru p79 h' := by
  obtain ⟨h1, ⟨sd, szs, h2, h3, h4⟩, ⟨b1, h5⟩, ⟨b2, h6⟩, ⟨b3, h7⟩, h8⟩ := H
  exact ⟨h1.same (fun k a b => e k a (by omega)), ⟨sd, szs, h2, (e 66 (by decide) (by decide)).trans h3, (e 67 (by decide) (by decide)).trans h4⟩, ⟨b1, (e 76 (by decide) (by decide)).trans h5⟩, ⟨b2, (e 77 (by decide) (by decide)).trans h6⟩, ⟨b3, (e 78 (by decide) (by decide)).trans h7⟩, h8.same (fun k a b => e k (by omega) b)⟩
theorem et_JM.fm {th th2 : Int32} {f f2 : Nat → Int32} {sz sz2 : Nat} {wp wp2 : Int32} {g g2 : gr} {rc : Nat} {ru : Nat → prul} {p79 : Nat → Int32} {h h' : Nat → et_MC} (H : et_JM th f sz wp g rc ru p79 h) (e : ∀ k, (k < 64 ∨ k = 66 ∨ k = 67 ∨ (75 < k ∧ k < 80) ∨ 83 < k) → h' k = h k) (hM : et_ME th2 f2 sz2 wp2 (nI rc) g2 h') (hB : et_MB p79 h') : et_JM th2 f2 sz2 wp2 g2 rc ru p79 h' := by
  obtain ⟨h1, ⟨sd, szs, h2, h3, h4⟩, ⟨b1, h5⟩, ⟨b2, h6⟩, ⟨b3, h7⟩, h8⟩ := H
  exact ⟨hM, ⟨sd, szs, h2, (e 66 (by omega)).trans h3, (e 67 (by omega)).trans h4⟩, ⟨b1, (e 76 (by omega)).trans h5⟩, ⟨b2, (e 77 (by omega)).trans h6⟩, ⟨b3, (e 78 (by omega)).trans h7⟩, hB⟩
theorem et_JM.fm0 {th th2 : Int32} {f f2 : Nat → Int32} {sz sz2 : Nat} {wp wp2 : Int32} {g g2 : gr} {rc : Nat} {ru : Nat → prul} {p79 : Nat → Int32} {h h' : Nat → et_MC} (H : et_JM th f sz wp g rc ru p79 h) (e : et_fm h h') (hM : et_ME th2 f2 sz2 wp2 (nI rc) g2 h') : et_JM th2 f2 sz2 wp2 g2 rc ru p79 h' :=
  H.fm (fun k hk => e k (by omega)) hM (H.2.2.2.2.2.same (fun k a b => e k (by omega)))
theorem et_JM.o64 {th : Int32} {f : Nat → Int32} {sz : Nat} {wp : Int32} {g : gr} {rc : Nat} {ru : Nat → prul} {p79 : Nat → Int32} {h : Nat → et_MC} (H : et_JM th f sz wp g rc ru p79 h) : ∃ fs, h 64 = .inr (7, .int th :: fs) := by
  obtain ⟨⟨⟨a, b, c, d, u, i, j, l, h64⟩, -⟩, -⟩ := H
  exact ⟨_, h64⟩
/-- both halves, which say the same -/
def et_J (h : Nat → et_MC) (n : Nat) : Prop := ∃ (f f' : Nat → Int32) (sz : Nat) (wp th : Int32) (g g' : gr) (σ ρ : Nat → Nat) (rc : Nat) (ru : Nat → prul) (p18 p79 : Nat → Int32) (pr : Int32 → Nat), sz ≤ 60 ∧ (∀ i, i < sz → f' i = f i) ∧ et_JE f sz wp g rc ru p18 n h ∧ et_JM th f' sz wp g' rc ru p79 h ∧ (∃ o, h 84 = .inl (1, 1, .inr (.inl o))) ∧ gG 40 g ∧ gG 40 g' ∧ gIso σ ρ g g' ∧ prOk p18 pr ∧ prOk p79 pr
