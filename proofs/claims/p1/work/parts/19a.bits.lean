theorem et_lshr {sc : et_X} {Y : et_Y} {d mc ms : Nat} {Post : et_R → (Nat → et_MC) → Nat → Prop} {pc : Nat} {lv : List (Option Value)} {st : List Value} {h : Nat → et_MC} {n nc ns : Nat} {x v : Int64} {y : Int32} (hdg : decode Y.2.1 pc = .ok (.lshr, 1)) (hv : x >>> (y.toInt64 &&& 63) = v) (k : et_M sc Y d mc ms Post (pc + 1) lv (.long v :: st) h n nc ns) : et_M sc Y d mc ms Post pc lv (.int y :: .long x :: st) h n nc ns := by
  intro p l e R s m args below meth c B D dA ls H locs C hP hF hL hl
  exact lv_lshr (rest := st.map (et_em B)) C.1 C.2.1 hdg hv (k p l e R s m args below meth c B D dA ls H locs C hP hF hL hl)
theorem et_bv (x : BitVec 64) (s : Nat) (hs : s ≤ 56) : (x.sshiftRight s) &&& 255#64 = (x >>> s) &&& 255#64 := by
  have h255 : ∀ i, i < 64 → ¬ i < 8 → (255#64).getLsbD i = false := by decide
  apply BitVec.eq_of_getLsbD_eq
  intro i hi
  rw [BitVec.getLsbD_and, BitVec.getLsbD_and]
  by_cases h8 : i < 8
  · have h1 : s + i < 64 := by omega
    rw [BitVec.getLsbD_sshiftRight, BitVec.getLsbD_ushiftRight]
    simp [h1, show ¬ 64 ≤ i by omega]
  · rw [h255 i hi h8, Bool.and_false, Bool.and_false]
theorem et_sh1 (b D : Int64) (E : UInt64) (s : Nat) (hD : (D.toBitVec.smod 64).toNat = s) (hE : (E.toBitVec % 64).toNat = s) (hs : s ≤ 56) : (b >>> D) &&& 255 = (b.toUInt64 >>> E).toInt64 &&& 255 := by
  apply Int64.toBitVec_inj.mp
  show (b.toBitVec.sshiftRight (D.toBitVec.smod 64).toNat) &&& 255#64 = (b.toBitVec >>> (E.toBitVec % 64).toNat) &&& 255#64
  rw [hD, hE]
  exact et_bv _ _ hs
def et_bl (b : Int64) (i : Int32) : Int64 := ((b.toUInt64 >>> ((8 * i).toInt64.toUInt64 &&& Int64.toUInt64 63)).toInt64) &&& 255
theorem et_bl_by (b : Int64) (i : Int32) : (et_bl b i).toInt32 = et_by b i := rfl
theorem et_sh {k : Nat} (b : Int64) (hk : k < 8) : (b >>> ((8 * nI k).toInt64 &&& 63)) &&& 255 = et_bl b (nI k) := by
  rcases (show k = 0 ∨ k = 1 ∨ k = 2 ∨ k = 3 ∨ k = 4 ∨ k = 5 ∨ k = 6 ∨ k = 7 by omega) with rfl | rfl | rfl | rfl | rfl | rfl | rfl | rfl
  · exact et_sh1 b _ _ 0 (by decide) (by decide) (by decide)
  · exact et_sh1 b _ _ 8 (by decide) (by decide) (by decide)
  · exact et_sh1 b _ _ 16 (by decide) (by decide) (by decide)
  · exact et_sh1 b _ _ 24 (by decide) (by decide) (by decide)
  · exact et_sh1 b _ _ 32 (by decide) (by decide) (by decide)
  · exact et_sh1 b _ _ 40 (by decide) (by decide) (by decide)
  · exact et_sh1 b _ _ 48 (by decide) (by decide) (by decide)
  · exact et_sh1 b _ _ 56 (by decide) (by decide) (by decide)
theorem et_and255 (x : Int64) : ∃ m : Nat, m < 256 ∧ x &&& 255 = lN m := by
  refine ⟨x.toBitVec.toNat % 256, Nat.mod_lt _ (by decide), ?_⟩
  apply Int64.toBitVec_inj.mp
  apply BitVec.eq_of_toNat_eq
  show (x.toBitVec &&& 255#64).toNat = (BitVec.ofNat 64 (x.toBitVec.toNat % 256)).toNat
  rw [BitVec.toNat_and]
  simp only [BitVec.toNat_ofNat]
  have h1 : x.toBitVec.toNat &&& 255 = x.toBitVec.toNat % 256 := Nat.and_two_pow_sub_one_eq_mod x.toBitVec.toNat 8
  have h2 : 255 % 2 ^ 64 = 255 := rfl
  rw [h2, h1]
  omega
/-- a byte, as a long and as an int -/
theorem et_byte (b : Int64) (i : Int32) : ∃ m : Nat, m < 256 ∧ et_bl b i = lN m ∧ et_by b i = nI m := by
  obtain ⟨m, h1, h2⟩ := et_and255 ((b.toUInt64 >>> ((8 * i).toInt64.toUInt64 &&& Int64.toUInt64 63)).toInt64)
  exact ⟨m, h1, h2, by rw [← et_bl_by]; unfold et_bl; rw [h2, lN_i]⟩
