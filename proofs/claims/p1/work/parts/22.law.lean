/-! ===== the law: one call of the script ===== -/
def et_one : et_R → (Nat → et_MC) → Nat → Prop := fun r _ _ => r = .inl (some (.int 1))
theorem et_weak {sc : et_X} {Y : et_Y} {d mc ms : Nat} {Post : et_R → (Nat → et_MC) → Nat → Prop} {pc : Nat} {lv lv' : List (Option Value)} {st : List Value} {h : Nat → et_MC} {n nc ns : Nat} (hs : ∀ (j : Nat) (v : Value), lv'[j]? = some (some v) → lv[j]? = some (some v)) (k : et_M sc Y d mc ms Post pc lv' st h n nc ns) : et_M sc Y d mc ms Post pc lv st h n nc ns := by
  intro p l e R s m args below meth c B D dA ls H locs C hP hF hL hl
  refine k p l e R s m args below meth c B D dA ls H locs C hP hF hL (et_sub hl fun q hq => ?_)
  obtain ⟨j, v, h1, h2⟩ := (et_ll_mem _ _ _).mp hq
  exact (et_ll_mem _ _ _).mpr ⟨j, v, hs j v h1, h2⟩
theorem et_w8 {a b c d e o5 o6 o7 : Option Value} : ∀ (j : Nat) (v : Value), ([a, b, c, d, e, none, none, none] : List (Option Value))[j]? = some (some v) → ([a, b, c, d, e, o5, o6, o7] : List (Option Value))[j]? = some (some v)
  | 0, _, h => h
  | 1, _, h => h
  | 2, _, h => h
  | 3, _, h => h
  | 4, _, h => h
  | 5, _, h => by simp at h
  | 6, _, h => by simp at h
  | 7, _, h => by simp at h
  | j + 8, _, h => by simp at h
theorem et_and15 (x : Int32) : ∃ m : Nat, m < 16 ∧ x &&& 15 = nI m := by
  refine ⟨x.toBitVec.toNat % 16, Nat.mod_lt _ (by decide), ?_⟩
  apply Int32.toBitVec_inj.mp
  apply BitVec.eq_of_toNat_eq
  show (x.toBitVec &&& 15#32).toNat = (BitVec.ofNat 32 (x.toBitVec.toNat % 16)).toNat
  rw [BitVec.toNat_and]
  simp only [BitVec.toNat_ofNat]
  have h1 : x.toBitVec.toNat &&& 15 = x.toBitVec.toNat % 16 := Nat.and_two_pow_sub_one_eq_mod x.toBitVec.toNat 4
  have h2 : 15 % 2 ^ 32 = 15 := rfl
  rw [h2, h1]
  omega
theorem et_cell {sc : et_X} {mc ms : Nat} {pc : Nat} {st : List Value} {h : Nat → et_MC} {n nc ns : Nat} {z : Int} (i k : Nat) {o5 o6 o7 : Option Value} (d1 : decode code pc = .ok (.aload_n 0, 1)) (d2 : decode code (pc + 1) = .ok (.iload 4, 2)) (d3 : decode code (pc + 1 + 2) = .ok (.iconst z, 1)) (d4 : decode code (pc + 1 + 2 + 1) = .ok (.iadd, 1)) (d5 : decode code (pc + 1 + 2 + 1 + 1) = .ok (.iaload, 1)) (hz : Int32.ofInt z = nI k) (hi : i + k < sc.2.1) (hL : sc.2.1 ≤ 2048)
    (K : et_M sc Y_Law 900 mc ms et_one (pc + 1 + 2 + 1 + 1 + 1) [some (.retAddr sc.1), some (.ref 0), some (.ref 64), some (.ref 84), some (.int (nI i)), o5, o6, o7] (.int (sc.2.2 (i + k)) :: st) h n nc ns) : et_M sc Y_Law 900 mc ms et_one pc [some (.retAddr sc.1), some (.ref 0), some (.ref 64), some (.ref 84), some (.int (nI i)), o5, o6, o7] st h n nc ns := by
  refine et_sload (i := 0) d1 rfl rfl ?_
  refine et_iload d2 rfl ?_
  refine et_iconst d3 hz ?_
  refine et_iadd d4 ?_
  rw [nI_add]
  refine et_sld d5 (vp_in_nI hi (by omega)) ?_
  rw [nI_clamp (by omega)]
  exact K
def et_cA (sc : et_X) (Yx Yy : et_Y) (as : List Value) (h : Nat → et_MC) (n : Nat) (Nx : (Nat → et_MC) → Nat → Prop) : Prop :=
  ∃ (mcc msc : Nat) (Px : et_R → (Nat → et_MC) → Nat → Prop), mcc ≤ 1000 ∧ msc ≤ 10000 ∧ (∃ fs, h 0 = .inr (6, fs)) ∧ et_Cn sc Yx 899 (.ref 0 :: as) h n mcc msc Px ∧ ∀ r h1 n1, Px r h1 n1 → ∃ w : Int32, r = .inl (some (.int w)) ∧ (∃ fs, h1 64 = .inr (7, fs)) ∧
    ∃ Py : et_R → (Nat → et_MC) → Nat → Prop, et_Cn sc Yy 899 (.ref 64 :: as) h1 n1 0 0 Py ∧ ∀ r2 h2 n2, Py r2 h2 n2 → r2 = .inl (some (.int w)) ∧ Nx h2 n2
def et_cB (sc : et_X) (Yx : et_Y) (ax : List Value) (Yy : et_Y) (as : List Value) (h : Nat → et_MC) (n : Nat) (An : Option Value → Int32 → (Nat → et_MC) → Prop) (Nx : (Nat → et_MC) → Nat → Prop) : Prop :=
  ∃ (mcc msc : Nat) (Px : et_R → (Nat → et_MC) → Nat → Prop), mcc ≤ 1000 ∧ msc ≤ 10000 ∧ et_Cn sc Yx 899 ax h n mcc msc Px ∧ ∀ r h1 n1, Px r h1 n1 → ∃ k : Int32, r = .inl (some (.int k)) ∧ (∃ fs, h1 64 = .inr (7, fs)) ∧
    ∃ Py : et_R → (Nat → et_MC) → Nat → Prop, et_Cn sc Yy 899 (.ref 64 :: as) h1 n1 0 0 Py ∧ ∀ r2 h2 n2, Py r2 h2 n2 → ∃ v, r2 = .inl v ∧ (∃ fs, h2 64 = .inr (7, .int k :: fs)) ∧ An v k h2 ∧ Nx h2 n2
/-- what the answers must be: an int, a long, nothing -/
def et_anI (v : Option Value) (k : Int32) (h : Nat → et_MC) : Prop := ∃ b : Int32, v = some (.int b) ∧ (k = 0 → ∃ g : Nat → Int64, h 84 = .inl (1, 1, .inr (.inl g)) ∧ g 0 = b.toInt64)
def et_anL (v : Option Value) (k : Int32) (h : Nat → et_MC) : Prop := ∃ b : Int64, v = some (.long b) ∧ (k = 0 → ∃ g : Nat → Int64, h 84 = .inl (1, 1, .inr (.inl g)) ∧ g 0 = b)
def et_anV (v : Option Value) (_ : Int32) (_ : Nat → et_MC) : Prop := v = none
def et_arg (a1 a2 : Int32) : Int64 := (a1.toInt64 <<< ((32 : Int32).toInt64 &&& 63)) ||| (a2.toInt64 &&& 4294967295)
def et_op (sc : et_X) (k : Nat) (a1 a2 a3 : Int32) (h : Nat → et_MC) (n : Nat) (Nx : (Nat → et_MC) → Nat → Prop) : Prop := match k with
  | 0 => et_cA sc Y_E_type Y_M_type [.long (et_arg a1 a2), .int a3] h n Nx
  | 1 => et_cA sc Y_E_wipe Y_M_wipe [] h n Nx
  | 2 => et_cA sc Y_E_character Y_M_character [.int a1] h n Nx
  | 3 => et_cA sc Y_E_place Y_M_place [] h n Nx
  | 4 => et_cB sc Y_L_rule [.ref 0, .ref 84] Y_M_rule [] h n et_anI Nx
  | 5 => et_cB sc Y_L_add [.ref 0, .ref 84] Y_M_add [] h n et_anI Nx
  | 6 => et_cB sc Y_L_unite [.ref 0, .ref 84] Y_M_unite [] h n et_anI Nx
  | 7 => et_cB sc Y_L_same [.ref 0, .ref 84] Y_M_same [] h n et_anI Nx
  | 8 => et_cB sc Y_L_price [.ref 0, .int a1, .int a2] Y_M_price [.int a1, .int a2] h n et_anV Nx
  | 9 => et_cB sc Y_L_rounds [.ref 0, .int a1, .ref 84] Y_M_rounds [.int a1] h n et_anI Nx
  | 10 => et_cA sc Y_E_nodes Y_M_nodes [] h n Nx
  | 11 => et_cA sc Y_E_classes Y_M_classes [] h n Nx
  | 12 => et_cB sc Y_L_members [.ref 0, .ref 84] Y_M_members [] h n et_anI Nx
  | 13 => et_cB sc Y_L_cost [.ref 0, .ref 84] Y_M_cost [] h n et_anL Nx
  | 14 => et_cB sc Y_L_best [.ref 0, .ref 84] Y_M_best [] h n et_anI Nx
  | _ => Nx h n
theorem et_cmp0 {x y : Int64} (e : x = y) : lg_cmp x y = 0 := by
  subst e
  simp [lg_cmp]
set_option maxHeartbeats 4000000 in
set_option maxRecDepth 100000 in
theorem law_type {sc : et_X} {mc ms : Nat} {h : Nat → et_MC} {n nc ns i : Nat} {Nx : (Nat → et_MC) → Nat → Prop} (hi : i + 4 ≤ sc.2.1) (hL : sc.2.1 ≤ 2048) (hmc : nc + 1000 ≤ mc) (hms : ns + 10000 ≤ ms) (hk : et_op sc 0 (sc.2.2 (i + 1)) (sc.2.2 (i + 2)) (sc.2.2 (i + 3)) h n Nx) (hK : ∀ (h' : Nat → et_MC) (n' nc' ns' : Nat), nc' ≤ nc + 1000 → ns' ≤ ns + 10000 → Nx h' n' → et_M sc Y_Law 900 mc ms et_one 669 [some (.retAddr sc.1), some (.ref 0), some (.ref 64), some (.ref 84), some (.int (nI i)), none, none, none] [] h' n' nc' ns') : et_M sc Y_Law 900 mc ms et_one 112 [some (.retAddr sc.1), some (.ref 0), some (.ref 64), some (.ref 84), some (.int (nI i)), none, none, none] [] h n nc ns := by
  obtain ⟨mcc, msc, Px, b1, b2, ⟨fs, f0⟩, hx, hy⟩ := hk
  refine et_aload_n (i := 1) d_Law_112 rfl rfl ?_
  refine et_cell i 1 d_Law_113 d_Law_114 d_Law_116 d_Law_117 d_Law_118 (by decide) (by omega) hL ?_
  refine et_i2l d_Law_119 rfl ?_
  refine et_bipush (v := 32) d_Law_120 (by decide) ?_
  refine et_lshl d_Law_122 rfl ?_
  refine et_cell i 2 d_Law_123 d_Law_124 d_Law_126 d_Law_127 d_Law_128 (by decide) (by omega) hL ?_
  refine et_i2l d_Law_129 rfl ?_
  refine et_ldc2 d_Law_130 kl_L_48 ?_
  refine et_land d_Law_133 ?_
  refine et_lor d_Law_134 ?_
  refine et_cell i 3 d_Law_135 d_Law_136 d_Law_138 d_Law_139 d_Law_140 (by decide) (by omega) hL ?_
  refine et_invV mV_E_type (As := [_, _]) rfl d_Law_141 lk_L_50 len_E_type f0 rfl (Nat.le_of_ble_eq_true rfl) hx (Nat.le_of_ble_eq_true rfl) (by omega) (by omega) (fun v h1 n1 hp => ?_) (fun y h1 n1 hp => by obtain ⟨w, e, _⟩ := hy _ _ _ hp; cases e)
  obtain ⟨w, e, ⟨fs1, f1⟩, Py, hz, hn⟩ := hy _ _ _ hp
  cases e
  refine et_aload_n (i := 2) d_Law_144 rfl rfl ?_
  refine et_cell i 1 d_Law_145 d_Law_146 d_Law_148 d_Law_149 d_Law_150 (by decide) (by omega) hL ?_
  refine et_i2l d_Law_151 rfl ?_
  refine et_bipush (v := 32) d_Law_152 (by decide) ?_
  refine et_lshl d_Law_154 rfl ?_
  refine et_cell i 2 d_Law_155 d_Law_156 d_Law_158 d_Law_159 d_Law_160 (by decide) (by omega) hL ?_
  refine et_i2l d_Law_161 rfl ?_
  refine et_ldc2 d_Law_162 kl_L_48 ?_
  refine et_land d_Law_165 ?_
  refine et_lor d_Law_166 ?_
  refine et_cell i 3 d_Law_167 d_Law_168 d_Law_170 d_Law_171 d_Law_172 (by decide) (by omega) hL ?_
  refine et_invV mV_M_type (As := [_, _]) rfl d_Law_173 lk_L_54 len_M_type f1 rfl (Nat.le_of_ble_eq_true rfl) hz (Nat.le_of_ble_eq_true rfl) (by omega) (by omega) (fun v h2 n2 hp2 => ?_) (fun y h2 n2 hp2 => by cases (hn _ _ _ hp2).1)
  obtain ⟨e, hq⟩ := hn _ _ _ hp2
  cases e
  refine et_icmp_eq (tgt := 669) d_Law_176 (by decide) (fun _ => ?_) (fun q => absurd rfl q)
  exact hK _ _ _ _ (by omega) (by omega) hq
set_option maxHeartbeats 4000000 in
set_option maxRecDepth 100000 in
theorem law_wipe {sc : et_X} {mc ms : Nat} {h : Nat → et_MC} {n nc ns i : Nat} {Nx : (Nat → et_MC) → Nat → Prop} (hi : i + 4 ≤ sc.2.1) (hL : sc.2.1 ≤ 2048) (hmc : nc + 1000 ≤ mc) (hms : ns + 10000 ≤ ms) (hk : et_op sc 1 (sc.2.2 (i + 1)) (sc.2.2 (i + 2)) (sc.2.2 (i + 3)) h n Nx) (hK : ∀ (h' : Nat → et_MC) (n' nc' ns' : Nat), nc' ≤ nc + 1000 → ns' ≤ ns + 10000 → Nx h' n' → et_M sc Y_Law 900 mc ms et_one 669 [some (.retAddr sc.1), some (.ref 0), some (.ref 64), some (.ref 84), some (.int (nI i)), none, none, none] [] h' n' nc' ns') : et_M sc Y_Law 900 mc ms et_one 181 [some (.retAddr sc.1), some (.ref 0), some (.ref 64), some (.ref 84), some (.int (nI i)), none, none, none] [] h n nc ns := by
  obtain ⟨mcc, msc, Px, b1, b2, ⟨fs, f0⟩, hx, hy⟩ := hk
  refine et_aload_n (i := 1) d_Law_181 rfl rfl ?_
  refine et_invV mV_E_wipe (As := []) rfl d_Law_182 lk_L_55 len_E_wipe f0 rfl (Nat.le_of_ble_eq_true rfl) hx (Nat.le_of_ble_eq_true rfl) (by omega) (by omega) (fun v h1 n1 hp => ?_) (fun y h1 n1 hp => by obtain ⟨w, e, _⟩ := hy _ _ _ hp; cases e)
  obtain ⟨w, e, ⟨fs1, f1⟩, Py, hz, hn⟩ := hy _ _ _ hp
  cases e
  refine et_aload_n (i := 2) d_Law_185 rfl rfl ?_
  refine et_invV mV_M_wipe (As := []) rfl d_Law_186 lk_L_58 len_M_wipe f1 rfl (Nat.le_of_ble_eq_true rfl) hz (Nat.le_of_ble_eq_true rfl) (by omega) (by omega) (fun v h2 n2 hp2 => ?_) (fun y h2 n2 hp2 => by cases (hn _ _ _ hp2).1)
  obtain ⟨e, hq⟩ := hn _ _ _ hp2
  cases e
  refine et_icmp_eq (tgt := 669) d_Law_189 (by decide) (fun _ => ?_) (fun q => absurd rfl q)
  exact hK _ _ _ _ (by omega) (by omega) hq
set_option maxHeartbeats 4000000 in
set_option maxRecDepth 100000 in
theorem law_character {sc : et_X} {mc ms : Nat} {h : Nat → et_MC} {n nc ns i : Nat} {Nx : (Nat → et_MC) → Nat → Prop} (hi : i + 4 ≤ sc.2.1) (hL : sc.2.1 ≤ 2048) (hmc : nc + 1000 ≤ mc) (hms : ns + 10000 ≤ ms) (hk : et_op sc 2 (sc.2.2 (i + 1)) (sc.2.2 (i + 2)) (sc.2.2 (i + 3)) h n Nx) (hK : ∀ (h' : Nat → et_MC) (n' nc' ns' : Nat), nc' ≤ nc + 1000 → ns' ≤ ns + 10000 → Nx h' n' → et_M sc Y_Law 900 mc ms et_one 669 [some (.retAddr sc.1), some (.ref 0), some (.ref 64), some (.ref 84), some (.int (nI i)), none, none, none] [] h' n' nc' ns') : et_M sc Y_Law 900 mc ms et_one 194 [some (.retAddr sc.1), some (.ref 0), some (.ref 64), some (.ref 84), some (.int (nI i)), none, none, none] [] h n nc ns := by
  obtain ⟨mcc, msc, Px, b1, b2, ⟨fs, f0⟩, hx, hy⟩ := hk
  refine et_aload_n (i := 1) d_Law_194 rfl rfl ?_
  refine et_cell i 1 d_Law_195 d_Law_196 d_Law_198 d_Law_199 d_Law_200 (by decide) (by omega) hL ?_
  refine et_invV mV_E_character (As := [_]) rfl d_Law_201 lk_L_59 len_E_character f0 rfl (Nat.le_of_ble_eq_true rfl) hx (Nat.le_of_ble_eq_true rfl) (by omega) (by omega) (fun v h1 n1 hp => ?_) (fun y h1 n1 hp => by obtain ⟨w, e, _⟩ := hy _ _ _ hp; cases e)
  obtain ⟨w, e, ⟨fs1, f1⟩, Py, hz, hn⟩ := hy _ _ _ hp
  cases e
  refine et_aload_n (i := 2) d_Law_204 rfl rfl ?_
  refine et_cell i 1 d_Law_205 d_Law_206 d_Law_208 d_Law_209 d_Law_210 (by decide) (by omega) hL ?_
  refine et_invV mV_M_character (As := [_]) rfl d_Law_211 lk_L_62 len_M_character f1 rfl (Nat.le_of_ble_eq_true rfl) hz (Nat.le_of_ble_eq_true rfl) (by omega) (by omega) (fun v h2 n2 hp2 => ?_) (fun y h2 n2 hp2 => by cases (hn _ _ _ hp2).1)
  obtain ⟨e, hq⟩ := hn _ _ _ hp2
  cases e
  refine et_icmp_eq (tgt := 669) d_Law_214 (by decide) (fun _ => ?_) (fun q => absurd rfl q)
  exact hK _ _ _ _ (by omega) (by omega) hq
set_option maxHeartbeats 4000000 in
set_option maxRecDepth 100000 in
theorem law_place {sc : et_X} {mc ms : Nat} {h : Nat → et_MC} {n nc ns i : Nat} {Nx : (Nat → et_MC) → Nat → Prop} (hi : i + 4 ≤ sc.2.1) (hL : sc.2.1 ≤ 2048) (hmc : nc + 1000 ≤ mc) (hms : ns + 10000 ≤ ms) (hk : et_op sc 3 (sc.2.2 (i + 1)) (sc.2.2 (i + 2)) (sc.2.2 (i + 3)) h n Nx) (hK : ∀ (h' : Nat → et_MC) (n' nc' ns' : Nat), nc' ≤ nc + 1000 → ns' ≤ ns + 10000 → Nx h' n' → et_M sc Y_Law 900 mc ms et_one 669 [some (.retAddr sc.1), some (.ref 0), some (.ref 64), some (.ref 84), some (.int (nI i)), none, none, none] [] h' n' nc' ns') : et_M sc Y_Law 900 mc ms et_one 219 [some (.retAddr sc.1), some (.ref 0), some (.ref 64), some (.ref 84), some (.int (nI i)), none, none, none] [] h n nc ns := by
  obtain ⟨mcc, msc, Px, b1, b2, ⟨fs, f0⟩, hx, hy⟩ := hk
  refine et_aload_n (i := 1) d_Law_219 rfl rfl ?_
  refine et_invV mV_E_place (As := []) rfl d_Law_220 lk_L_63 len_E_place f0 rfl (Nat.le_of_ble_eq_true rfl) hx (Nat.le_of_ble_eq_true rfl) (by omega) (by omega) (fun v h1 n1 hp => ?_) (fun y h1 n1 hp => by obtain ⟨w, e, _⟩ := hy _ _ _ hp; cases e)
  obtain ⟨w, e, ⟨fs1, f1⟩, Py, hz, hn⟩ := hy _ _ _ hp
  cases e
  refine et_aload_n (i := 2) d_Law_223 rfl rfl ?_
  refine et_invV mV_M_place (As := []) rfl d_Law_224 lk_L_66 len_M_place f1 rfl (Nat.le_of_ble_eq_true rfl) hz (Nat.le_of_ble_eq_true rfl) (by omega) (by omega) (fun v h2 n2 hp2 => ?_) (fun y h2 n2 hp2 => by cases (hn _ _ _ hp2).1)
  obtain ⟨e, hq⟩ := hn _ _ _ hp2
  cases e
  refine et_icmp_eq (tgt := 669) d_Law_227 (by decide) (fun _ => ?_) (fun q => absurd rfl q)
  exact hK _ _ _ _ (by omega) (by omega) hq
set_option maxHeartbeats 4000000 in
set_option maxRecDepth 100000 in
theorem law_rule {sc : et_X} {mc ms : Nat} {h : Nat → et_MC} {n nc ns i : Nat} {Nx : (Nat → et_MC) → Nat → Prop} (hi : i + 4 ≤ sc.2.1) (hL : sc.2.1 ≤ 2048) (hmc : nc + 1000 ≤ mc) (hms : ns + 10000 ≤ ms) (hk : et_op sc 4 (sc.2.2 (i + 1)) (sc.2.2 (i + 2)) (sc.2.2 (i + 3)) h n Nx) (hK : ∀ (h' : Nat → et_MC) (n' nc' ns' : Nat), nc' ≤ nc + 1000 → ns' ≤ ns + 10000 → Nx h' n' → et_M sc Y_Law 900 mc ms et_one 669 [some (.retAddr sc.1), some (.ref 0), some (.ref 64), some (.ref 84), some (.int (nI i)), none, none, none] [] h' n' nc' ns') : et_M sc Y_Law 900 mc ms et_one 232 [some (.retAddr sc.1), some (.ref 0), some (.ref 64), some (.ref 84), some (.int (nI i)), none, none, none] [] h n nc ns := by
  obtain ⟨mcc, msc, Px, b1, b2, hx, hy⟩ := hk
  refine et_aload_n (i := 1) d_Law_232 rfl rfl ?_
  refine et_aload_n (i := 3) d_Law_233 rfl rfl ?_
  refine et_invS mS_L_rule (As := [_, _]) rfl d_Law_234 lk_L_67 len_L_rule (Nat.le_of_ble_eq_true rfl) hx (Nat.le_of_ble_eq_true rfl) (by omega) (by omega) (fun v h1 n1 hp => ?_) (fun y h1 n1 hp => by obtain ⟨w, e, _⟩ := hy _ _ _ hp; cases e)
  obtain ⟨k, e, ⟨fs1, f1⟩, Py, hz, hn⟩ := hy _ _ _ hp
  cases e
  refine et_istore (lv' := [_, _, _, _, _, _, _, _]) d_Law_237 (by decide) rfl rfl ?_
  refine et_aload_n (i := 2) d_Law_239 rfl rfl ?_
  refine et_invV mV_M_rule (As := []) rfl d_Law_240 lk_L_72 len_M_rule f1 rfl (Nat.le_of_ble_eq_true rfl) hz (Nat.le_of_ble_eq_true rfl) (by omega) (by omega) (fun v h2 n2 hp2 => ?_) (fun y h2 n2 hp2 => by obtain ⟨v, e, _⟩ := hn _ _ _ hp2; cases e)
  obtain ⟨v2, e, ⟨fs2, f2⟩, han, hq⟩ := hn _ _ _ hp2
  cases e
  obtain ⟨b, hb, hout⟩ := han
  subst hb
  refine et_istore (lv' := [_, _, _, _, _, _, _, _]) d_Law_243 (by decide) rfl rfl ?_
  refine et_aload_n (i := 2) d_Law_245 rfl rfl ?_
  refine et_invV mV_M_thrown (As := []) rfl d_Law_246 lk_L_73 len_M_thrown f2 rfl (Nat.le_of_ble_eq_true rfl) (c_M_thrown (d := 899) f2) (Nat.le_of_ble_eq_true rfl) (by omega) (by omega) (fun v h3 n3 hp3 => ?_) (fun y h3 n3 hp3 => by cases hp3.1)
  obtain ⟨e, rfl, rfl⟩ := hp3
  cases e
  refine et_iload d_Law_249 rfl ?_
  refine et_icmp_eq (tgt := 256) d_Law_251 (by decide) (fun _ => ?_) (fun q => absurd rfl q)
  refine et_iload d_Law_256 rfl ?_
  refine et_if_ne (tgt := 273) d_Law_258 (by decide) (fun q0 => ?_) (fun q0 => ?_)
  · refine et_goto (tgt := 669) d_Law_273 (by decide) ?_
    refine et_weak et_w8 ?_
    exact hK _ _ _ _ (by omega) (by omega) hq
  · obtain ⟨g, g1, g2⟩ := hout q0
    refine et_aload_n (i := 3) d_Law_261 rfl rfl ?_
    refine et_iconst (v := 0) d_Law_262 (by decide) ?_
    refine et_lald d_Law_263 g1 (vp_in_nI (show 0 < 1 by decide) (by decide)) ?_
    refine et_iload d_Law_264 rfl ?_
    refine et_i2l d_Law_266 rfl ?_
    refine et_lcmp d_Law_267 ?_
    refine et_if_eq (tgt := 273) d_Law_268 (by decide) (fun _ => ?_) (fun q => absurd (et_cmp0 g2) q)
    refine et_goto (tgt := 669) d_Law_273 (by decide) ?_
    refine et_weak et_w8 ?_
    exact hK _ _ _ _ (by omega) (by omega) hq
set_option maxHeartbeats 4000000 in
set_option maxRecDepth 100000 in
theorem law_add {sc : et_X} {mc ms : Nat} {h : Nat → et_MC} {n nc ns i : Nat} {Nx : (Nat → et_MC) → Nat → Prop} (hi : i + 4 ≤ sc.2.1) (hL : sc.2.1 ≤ 2048) (hmc : nc + 1000 ≤ mc) (hms : ns + 10000 ≤ ms) (hk : et_op sc 5 (sc.2.2 (i + 1)) (sc.2.2 (i + 2)) (sc.2.2 (i + 3)) h n Nx) (hK : ∀ (h' : Nat → et_MC) (n' nc' ns' : Nat), nc' ≤ nc + 1000 → ns' ≤ ns + 10000 → Nx h' n' → et_M sc Y_Law 900 mc ms et_one 669 [some (.retAddr sc.1), some (.ref 0), some (.ref 64), some (.ref 84), some (.int (nI i)), none, none, none] [] h' n' nc' ns') : et_M sc Y_Law 900 mc ms et_one 276 [some (.retAddr sc.1), some (.ref 0), some (.ref 64), some (.ref 84), some (.int (nI i)), none, none, none] [] h n nc ns := by
  obtain ⟨mcc, msc, Px, b1, b2, hx, hy⟩ := hk
  refine et_aload_n (i := 1) d_Law_276 rfl rfl ?_
  refine et_aload_n (i := 3) d_Law_277 rfl rfl ?_
  refine et_invS mS_L_add (As := [_, _]) rfl d_Law_278 lk_L_76 len_L_add (Nat.le_of_ble_eq_true rfl) hx (Nat.le_of_ble_eq_true rfl) (by omega) (by omega) (fun v h1 n1 hp => ?_) (fun y h1 n1 hp => by obtain ⟨w, e, _⟩ := hy _ _ _ hp; cases e)
  obtain ⟨k, e, ⟨fs1, f1⟩, Py, hz, hn⟩ := hy _ _ _ hp
  cases e
  refine et_istore (lv' := [_, _, _, _, _, _, _, _]) d_Law_281 (by decide) rfl rfl ?_
  refine et_aload_n (i := 2) d_Law_283 rfl rfl ?_
  refine et_invV mV_M_add (As := []) rfl d_Law_284 lk_L_78 len_M_add f1 rfl (Nat.le_of_ble_eq_true rfl) hz (Nat.le_of_ble_eq_true rfl) (by omega) (by omega) (fun v h2 n2 hp2 => ?_) (fun y h2 n2 hp2 => by obtain ⟨v, e, _⟩ := hn _ _ _ hp2; cases e)
  obtain ⟨v2, e, ⟨fs2, f2⟩, han, hq⟩ := hn _ _ _ hp2
  cases e
  obtain ⟨b, hb, hout⟩ := han
  subst hb
  refine et_istore (lv' := [_, _, _, _, _, _, _, _]) d_Law_287 (by decide) rfl rfl ?_
  refine et_aload_n (i := 2) d_Law_289 rfl rfl ?_
  refine et_invV mV_M_thrown (As := []) rfl d_Law_290 lk_L_73 len_M_thrown f2 rfl (Nat.le_of_ble_eq_true rfl) (c_M_thrown (d := 899) f2) (Nat.le_of_ble_eq_true rfl) (by omega) (by omega) (fun v h3 n3 hp3 => ?_) (fun y h3 n3 hp3 => by cases hp3.1)
  obtain ⟨e, rfl, rfl⟩ := hp3
  cases e
  refine et_iload d_Law_293 rfl ?_
  refine et_icmp_eq (tgt := 300) d_Law_295 (by decide) (fun _ => ?_) (fun q => absurd rfl q)
  refine et_iload d_Law_300 rfl ?_
  refine et_if_ne (tgt := 317) d_Law_302 (by decide) (fun q0 => ?_) (fun q0 => ?_)
  · refine et_goto (tgt := 669) d_Law_317 (by decide) ?_
    refine et_weak et_w8 ?_
    exact hK _ _ _ _ (by omega) (by omega) hq
  · obtain ⟨g, g1, g2⟩ := hout q0
    refine et_aload_n (i := 3) d_Law_305 rfl rfl ?_
    refine et_iconst (v := 0) d_Law_306 (by decide) ?_
    refine et_lald d_Law_307 g1 (vp_in_nI (show 0 < 1 by decide) (by decide)) ?_
    refine et_iload d_Law_308 rfl ?_
    refine et_i2l d_Law_310 rfl ?_
    refine et_lcmp d_Law_311 ?_
    refine et_if_eq (tgt := 317) d_Law_312 (by decide) (fun _ => ?_) (fun q => absurd (et_cmp0 g2) q)
    refine et_goto (tgt := 669) d_Law_317 (by decide) ?_
    refine et_weak et_w8 ?_
    exact hK _ _ _ _ (by omega) (by omega) hq
set_option maxHeartbeats 4000000 in
set_option maxRecDepth 100000 in
theorem law_unite {sc : et_X} {mc ms : Nat} {h : Nat → et_MC} {n nc ns i : Nat} {Nx : (Nat → et_MC) → Nat → Prop} (hi : i + 4 ≤ sc.2.1) (hL : sc.2.1 ≤ 2048) (hmc : nc + 1000 ≤ mc) (hms : ns + 10000 ≤ ms) (hk : et_op sc 6 (sc.2.2 (i + 1)) (sc.2.2 (i + 2)) (sc.2.2 (i + 3)) h n Nx) (hK : ∀ (h' : Nat → et_MC) (n' nc' ns' : Nat), nc' ≤ nc + 1000 → ns' ≤ ns + 10000 → Nx h' n' → et_M sc Y_Law 900 mc ms et_one 669 [some (.retAddr sc.1), some (.ref 0), some (.ref 64), some (.ref 84), some (.int (nI i)), none, none, none] [] h' n' nc' ns') : et_M sc Y_Law 900 mc ms et_one 320 [some (.retAddr sc.1), some (.ref 0), some (.ref 64), some (.ref 84), some (.int (nI i)), none, none, none] [] h n nc ns := by
  obtain ⟨mcc, msc, Px, b1, b2, hx, hy⟩ := hk
  refine et_aload_n (i := 1) d_Law_320 rfl rfl ?_
  refine et_aload_n (i := 3) d_Law_321 rfl rfl ?_
  refine et_invS mS_L_unite (As := [_, _]) rfl d_Law_322 lk_L_79 len_L_unite (Nat.le_of_ble_eq_true rfl) hx (Nat.le_of_ble_eq_true rfl) (by omega) (by omega) (fun v h1 n1 hp => ?_) (fun y h1 n1 hp => by obtain ⟨w, e, _⟩ := hy _ _ _ hp; cases e)
  obtain ⟨k, e, ⟨fs1, f1⟩, Py, hz, hn⟩ := hy _ _ _ hp
  cases e
  refine et_istore (lv' := [_, _, _, _, _, _, _, _]) d_Law_325 (by decide) rfl rfl ?_
  refine et_aload_n (i := 2) d_Law_327 rfl rfl ?_
  refine et_invV mV_M_unite (As := []) rfl d_Law_328 lk_L_81 len_M_unite f1 rfl (Nat.le_of_ble_eq_true rfl) hz (Nat.le_of_ble_eq_true rfl) (by omega) (by omega) (fun v h2 n2 hp2 => ?_) (fun y h2 n2 hp2 => by obtain ⟨v, e, _⟩ := hn _ _ _ hp2; cases e)
  obtain ⟨v2, e, ⟨fs2, f2⟩, han, hq⟩ := hn _ _ _ hp2
  cases e
  obtain ⟨b, hb, hout⟩ := han
  subst hb
  refine et_istore (lv' := [_, _, _, _, _, _, _, _]) d_Law_331 (by decide) rfl rfl ?_
  refine et_aload_n (i := 2) d_Law_333 rfl rfl ?_
  refine et_invV mV_M_thrown (As := []) rfl d_Law_334 lk_L_73 len_M_thrown f2 rfl (Nat.le_of_ble_eq_true rfl) (c_M_thrown (d := 899) f2) (Nat.le_of_ble_eq_true rfl) (by omega) (by omega) (fun v h3 n3 hp3 => ?_) (fun y h3 n3 hp3 => by cases hp3.1)
  obtain ⟨e, rfl, rfl⟩ := hp3
  cases e
  refine et_iload d_Law_337 rfl ?_
  refine et_icmp_eq (tgt := 344) d_Law_339 (by decide) (fun _ => ?_) (fun q => absurd rfl q)
  refine et_iload d_Law_344 rfl ?_
  refine et_if_ne (tgt := 361) d_Law_346 (by decide) (fun q0 => ?_) (fun q0 => ?_)
  · refine et_goto (tgt := 669) d_Law_361 (by decide) ?_
    refine et_weak et_w8 ?_
    exact hK _ _ _ _ (by omega) (by omega) hq
  · obtain ⟨g, g1, g2⟩ := hout q0
    refine et_aload_n (i := 3) d_Law_349 rfl rfl ?_
    refine et_iconst (v := 0) d_Law_350 (by decide) ?_
    refine et_lald d_Law_351 g1 (vp_in_nI (show 0 < 1 by decide) (by decide)) ?_
    refine et_iload d_Law_352 rfl ?_
    refine et_i2l d_Law_354 rfl ?_
    refine et_lcmp d_Law_355 ?_
    refine et_if_eq (tgt := 361) d_Law_356 (by decide) (fun _ => ?_) (fun q => absurd (et_cmp0 g2) q)
    refine et_goto (tgt := 669) d_Law_361 (by decide) ?_
    refine et_weak et_w8 ?_
    exact hK _ _ _ _ (by omega) (by omega) hq
set_option maxHeartbeats 4000000 in
set_option maxRecDepth 100000 in
theorem law_same {sc : et_X} {mc ms : Nat} {h : Nat → et_MC} {n nc ns i : Nat} {Nx : (Nat → et_MC) → Nat → Prop} (hi : i + 4 ≤ sc.2.1) (hL : sc.2.1 ≤ 2048) (hmc : nc + 1000 ≤ mc) (hms : ns + 10000 ≤ ms) (hk : et_op sc 7 (sc.2.2 (i + 1)) (sc.2.2 (i + 2)) (sc.2.2 (i + 3)) h n Nx) (hK : ∀ (h' : Nat → et_MC) (n' nc' ns' : Nat), nc' ≤ nc + 1000 → ns' ≤ ns + 10000 → Nx h' n' → et_M sc Y_Law 900 mc ms et_one 669 [some (.retAddr sc.1), some (.ref 0), some (.ref 64), some (.ref 84), some (.int (nI i)), none, none, none] [] h' n' nc' ns') : et_M sc Y_Law 900 mc ms et_one 364 [some (.retAddr sc.1), some (.ref 0), some (.ref 64), some (.ref 84), some (.int (nI i)), none, none, none] [] h n nc ns := by
  obtain ⟨mcc, msc, Px, b1, b2, hx, hy⟩ := hk
  refine et_aload_n (i := 1) d_Law_364 rfl rfl ?_
  refine et_aload_n (i := 3) d_Law_365 rfl rfl ?_
  refine et_invS mS_L_same (As := [_, _]) rfl d_Law_366 lk_L_82 len_L_same (Nat.le_of_ble_eq_true rfl) hx (Nat.le_of_ble_eq_true rfl) (by omega) (by omega) (fun v h1 n1 hp => ?_) (fun y h1 n1 hp => by obtain ⟨w, e, _⟩ := hy _ _ _ hp; cases e)
  obtain ⟨k, e, ⟨fs1, f1⟩, Py, hz, hn⟩ := hy _ _ _ hp
  cases e
  refine et_istore (lv' := [_, _, _, _, _, _, _, _]) d_Law_369 (by decide) rfl rfl ?_
  refine et_aload_n (i := 2) d_Law_371 rfl rfl ?_
  refine et_invV mV_M_same (As := []) rfl d_Law_372 lk_L_84 len_M_same f1 rfl (Nat.le_of_ble_eq_true rfl) hz (Nat.le_of_ble_eq_true rfl) (by omega) (by omega) (fun v h2 n2 hp2 => ?_) (fun y h2 n2 hp2 => by obtain ⟨v, e, _⟩ := hn _ _ _ hp2; cases e)
  obtain ⟨v2, e, ⟨fs2, f2⟩, han, hq⟩ := hn _ _ _ hp2
  cases e
  obtain ⟨b, hb, hout⟩ := han
  subst hb
  refine et_istore (lv' := [_, _, _, _, _, _, _, _]) d_Law_375 (by decide) rfl rfl ?_
  refine et_aload_n (i := 2) d_Law_377 rfl rfl ?_
  refine et_invV mV_M_thrown (As := []) rfl d_Law_378 lk_L_73 len_M_thrown f2 rfl (Nat.le_of_ble_eq_true rfl) (c_M_thrown (d := 899) f2) (Nat.le_of_ble_eq_true rfl) (by omega) (by omega) (fun v h3 n3 hp3 => ?_) (fun y h3 n3 hp3 => by cases hp3.1)
  obtain ⟨e, rfl, rfl⟩ := hp3
  cases e
  refine et_iload d_Law_381 rfl ?_
  refine et_icmp_eq (tgt := 388) d_Law_383 (by decide) (fun _ => ?_) (fun q => absurd rfl q)
  refine et_iload d_Law_388 rfl ?_
  refine et_if_ne (tgt := 405) d_Law_390 (by decide) (fun q0 => ?_) (fun q0 => ?_)
  · refine et_goto (tgt := 669) d_Law_405 (by decide) ?_
    refine et_weak et_w8 ?_
    exact hK _ _ _ _ (by omega) (by omega) hq
  · obtain ⟨g, g1, g2⟩ := hout q0
    refine et_aload_n (i := 3) d_Law_393 rfl rfl ?_
    refine et_iconst (v := 0) d_Law_394 (by decide) ?_
    refine et_lald d_Law_395 g1 (vp_in_nI (show 0 < 1 by decide) (by decide)) ?_
    refine et_iload d_Law_396 rfl ?_
    refine et_i2l d_Law_398 rfl ?_
    refine et_lcmp d_Law_399 ?_
    refine et_if_eq (tgt := 405) d_Law_400 (by decide) (fun _ => ?_) (fun q => absurd (et_cmp0 g2) q)
    refine et_goto (tgt := 669) d_Law_405 (by decide) ?_
    refine et_weak et_w8 ?_
    exact hK _ _ _ _ (by omega) (by omega) hq
set_option maxHeartbeats 4000000 in
set_option maxRecDepth 100000 in
theorem law_price {sc : et_X} {mc ms : Nat} {h : Nat → et_MC} {n nc ns i : Nat} {Nx : (Nat → et_MC) → Nat → Prop} (hi : i + 4 ≤ sc.2.1) (hL : sc.2.1 ≤ 2048) (hmc : nc + 1000 ≤ mc) (hms : ns + 10000 ≤ ms) (hk : et_op sc 8 (sc.2.2 (i + 1)) (sc.2.2 (i + 2)) (sc.2.2 (i + 3)) h n Nx) (hK : ∀ (h' : Nat → et_MC) (n' nc' ns' : Nat), nc' ≤ nc + 1000 → ns' ≤ ns + 10000 → Nx h' n' → et_M sc Y_Law 900 mc ms et_one 669 [some (.retAddr sc.1), some (.ref 0), some (.ref 64), some (.ref 84), some (.int (nI i)), none, none, none] [] h' n' nc' ns') : et_M sc Y_Law 900 mc ms et_one 408 [some (.retAddr sc.1), some (.ref 0), some (.ref 64), some (.ref 84), some (.int (nI i)), none, none, none] [] h n nc ns := by
  obtain ⟨mcc, msc, Px, b1, b2, hx, hy⟩ := hk
  refine et_aload_n (i := 1) d_Law_408 rfl rfl ?_
  refine et_cell i 1 d_Law_409 d_Law_410 d_Law_412 d_Law_413 d_Law_414 (by decide) (by omega) hL ?_
  refine et_cell i 2 d_Law_415 d_Law_416 d_Law_418 d_Law_419 d_Law_420 (by decide) (by omega) hL ?_
  refine et_invS mS_L_price (As := [_, _, _]) rfl d_Law_421 lk_L_85 len_L_price (Nat.le_of_ble_eq_true rfl) hx (Nat.le_of_ble_eq_true rfl) (by omega) (by omega) (fun v h1 n1 hp => ?_) (fun y h1 n1 hp => by obtain ⟨w, e, _⟩ := hy _ _ _ hp; cases e)
  obtain ⟨k, e, ⟨fs1, f1⟩, Py, hz, hn⟩ := hy _ _ _ hp
  cases e
  refine et_istore (lv' := [_, _, _, _, _, _, _, _]) d_Law_424 (by decide) rfl rfl ?_
  refine et_aload_n (i := 2) d_Law_426 rfl rfl ?_
  refine et_cell i 1 d_Law_427 d_Law_428 d_Law_430 d_Law_431 d_Law_432 (by decide) (by omega) hL ?_
  refine et_cell i 2 d_Law_433 d_Law_434 d_Law_436 d_Law_437 d_Law_438 (by decide) (by omega) hL ?_
  refine et_invV mV_M_price (As := [_, _]) rfl d_Law_439 lk_L_88 len_M_price f1 rfl (Nat.le_of_ble_eq_true rfl) hz (Nat.le_of_ble_eq_true rfl) (by omega) (by omega) (fun v h2 n2 hp2 => ?_) (fun y h2 n2 hp2 => by obtain ⟨v, e, _⟩ := hn _ _ _ hp2; cases e)
  obtain ⟨v2, e, ⟨fs2, f2⟩, han, hq⟩ := hn _ _ _ hp2
  cases e
  cases han
  refine et_aload_n (i := 2) d_Law_442 rfl rfl ?_
  refine et_invV mV_M_thrown (As := []) rfl d_Law_443 lk_L_73 len_M_thrown f2 rfl (Nat.le_of_ble_eq_true rfl) (c_M_thrown (d := 899) f2) (Nat.le_of_ble_eq_true rfl) (by omega) (by omega) (fun v h3 n3 hp3 => ?_) (fun y h3 n3 hp3 => by cases hp3.1)
  obtain ⟨e, rfl, rfl⟩ := hp3
  cases e
  refine et_iload d_Law_446 rfl ?_
  refine et_icmp_eq (tgt := 453) d_Law_448 (by decide) (fun _ => ?_) (fun q => absurd rfl q)
  refine et_goto (tgt := 669) d_Law_453 (by decide) ?_
  refine et_weak et_w8 ?_
  exact hK _ _ _ _ (by omega) (by omega) hq
set_option maxHeartbeats 4000000 in
set_option maxRecDepth 100000 in
theorem law_rounds {sc : et_X} {mc ms : Nat} {h : Nat → et_MC} {n nc ns i : Nat} {Nx : (Nat → et_MC) → Nat → Prop} (hi : i + 4 ≤ sc.2.1) (hL : sc.2.1 ≤ 2048) (hmc : nc + 1000 ≤ mc) (hms : ns + 10000 ≤ ms) (hk : et_op sc 9 (sc.2.2 (i + 1)) (sc.2.2 (i + 2)) (sc.2.2 (i + 3)) h n Nx) (hK : ∀ (h' : Nat → et_MC) (n' nc' ns' : Nat), nc' ≤ nc + 1000 → ns' ≤ ns + 10000 → Nx h' n' → et_M sc Y_Law 900 mc ms et_one 669 [some (.retAddr sc.1), some (.ref 0), some (.ref 64), some (.ref 84), some (.int (nI i)), none, none, none] [] h' n' nc' ns') : et_M sc Y_Law 900 mc ms et_one 456 [some (.retAddr sc.1), some (.ref 0), some (.ref 64), some (.ref 84), some (.int (nI i)), none, none, none] [] h n nc ns := by
  obtain ⟨mcc, msc, Px, b1, b2, hx, hy⟩ := hk
  refine et_aload_n (i := 1) d_Law_456 rfl rfl ?_
  refine et_cell i 1 d_Law_457 d_Law_458 d_Law_460 d_Law_461 d_Law_462 (by decide) (by omega) hL ?_
  refine et_aload_n (i := 3) d_Law_463 rfl rfl ?_
  refine et_invS mS_L_rounds (As := [_, _, _]) rfl d_Law_464 lk_L_89 len_L_rounds (Nat.le_of_ble_eq_true rfl) hx (Nat.le_of_ble_eq_true rfl) (by omega) (by omega) (fun v h1 n1 hp => ?_) (fun y h1 n1 hp => by obtain ⟨w, e, _⟩ := hy _ _ _ hp; cases e)
  obtain ⟨k, e, ⟨fs1, f1⟩, Py, hz, hn⟩ := hy _ _ _ hp
  cases e
  refine et_istore (lv' := [_, _, _, _, _, _, _, _]) d_Law_467 (by decide) rfl rfl ?_
  refine et_aload_n (i := 2) d_Law_469 rfl rfl ?_
  refine et_cell i 1 d_Law_470 d_Law_471 d_Law_473 d_Law_474 d_Law_475 (by decide) (by omega) hL ?_
  refine et_invV mV_M_rounds (As := [_]) rfl d_Law_476 lk_L_92 len_M_rounds f1 rfl (Nat.le_of_ble_eq_true rfl) hz (Nat.le_of_ble_eq_true rfl) (by omega) (by omega) (fun v h2 n2 hp2 => ?_) (fun y h2 n2 hp2 => by obtain ⟨v, e, _⟩ := hn _ _ _ hp2; cases e)
  obtain ⟨v2, e, ⟨fs2, f2⟩, han, hq⟩ := hn _ _ _ hp2
  cases e
  obtain ⟨b, hb, hout⟩ := han
  subst hb
  refine et_istore (lv' := [_, _, _, _, _, _, _, _]) d_Law_479 (by decide) rfl rfl ?_
  refine et_aload_n (i := 2) d_Law_481 rfl rfl ?_
  refine et_invV mV_M_thrown (As := []) rfl d_Law_482 lk_L_73 len_M_thrown f2 rfl (Nat.le_of_ble_eq_true rfl) (c_M_thrown (d := 899) f2) (Nat.le_of_ble_eq_true rfl) (by omega) (by omega) (fun v h3 n3 hp3 => ?_) (fun y h3 n3 hp3 => by cases hp3.1)
  obtain ⟨e, rfl, rfl⟩ := hp3
  cases e
  refine et_iload d_Law_485 rfl ?_
  refine et_icmp_eq (tgt := 492) d_Law_487 (by decide) (fun _ => ?_) (fun q => absurd rfl q)
  refine et_iload d_Law_492 rfl ?_
  refine et_if_ne (tgt := 509) d_Law_494 (by decide) (fun q0 => ?_) (fun q0 => ?_)
  · refine et_goto (tgt := 669) d_Law_509 (by decide) ?_
    refine et_weak et_w8 ?_
    exact hK _ _ _ _ (by omega) (by omega) hq
  · obtain ⟨g, g1, g2⟩ := hout q0
    refine et_aload_n (i := 3) d_Law_497 rfl rfl ?_
    refine et_iconst (v := 0) d_Law_498 (by decide) ?_
    refine et_lald d_Law_499 g1 (vp_in_nI (show 0 < 1 by decide) (by decide)) ?_
    refine et_iload d_Law_500 rfl ?_
    refine et_i2l d_Law_502 rfl ?_
    refine et_lcmp d_Law_503 ?_
    refine et_if_eq (tgt := 509) d_Law_504 (by decide) (fun _ => ?_) (fun q => absurd (et_cmp0 g2) q)
    refine et_goto (tgt := 669) d_Law_509 (by decide) ?_
    refine et_weak et_w8 ?_
    exact hK _ _ _ _ (by omega) (by omega) hq
set_option maxHeartbeats 4000000 in
set_option maxRecDepth 100000 in
theorem law_nodes {sc : et_X} {mc ms : Nat} {h : Nat → et_MC} {n nc ns i : Nat} {Nx : (Nat → et_MC) → Nat → Prop} (hi : i + 4 ≤ sc.2.1) (hL : sc.2.1 ≤ 2048) (hmc : nc + 1000 ≤ mc) (hms : ns + 10000 ≤ ms) (hk : et_op sc 10 (sc.2.2 (i + 1)) (sc.2.2 (i + 2)) (sc.2.2 (i + 3)) h n Nx) (hK : ∀ (h' : Nat → et_MC) (n' nc' ns' : Nat), nc' ≤ nc + 1000 → ns' ≤ ns + 10000 → Nx h' n' → et_M sc Y_Law 900 mc ms et_one 669 [some (.retAddr sc.1), some (.ref 0), some (.ref 64), some (.ref 84), some (.int (nI i)), none, none, none] [] h' n' nc' ns') : et_M sc Y_Law 900 mc ms et_one 512 [some (.retAddr sc.1), some (.ref 0), some (.ref 64), some (.ref 84), some (.int (nI i)), none, none, none] [] h n nc ns := by
  obtain ⟨mcc, msc, Px, b1, b2, ⟨fs, f0⟩, hx, hy⟩ := hk
  refine et_aload_n (i := 1) d_Law_512 rfl rfl ?_
  refine et_invV mV_E_nodes (As := []) rfl d_Law_513 lk_L_93 len_E_nodes f0 rfl (Nat.le_of_ble_eq_true rfl) hx (Nat.le_of_ble_eq_true rfl) (by omega) (by omega) (fun v h1 n1 hp => ?_) (fun y h1 n1 hp => by obtain ⟨w, e, _⟩ := hy _ _ _ hp; cases e)
  obtain ⟨w, e, ⟨fs1, f1⟩, Py, hz, hn⟩ := hy _ _ _ hp
  cases e
  refine et_aload_n (i := 2) d_Law_516 rfl rfl ?_
  refine et_invV mV_M_nodes (As := []) rfl d_Law_517 lk_L_96 len_M_nodes f1 rfl (Nat.le_of_ble_eq_true rfl) hz (Nat.le_of_ble_eq_true rfl) (by omega) (by omega) (fun v h2 n2 hp2 => ?_) (fun y h2 n2 hp2 => by cases (hn _ _ _ hp2).1)
  obtain ⟨e, hq⟩ := hn _ _ _ hp2
  cases e
  refine et_icmp_eq (tgt := 669) d_Law_520 (by decide) (fun _ => ?_) (fun q => absurd rfl q)
  exact hK _ _ _ _ (by omega) (by omega) hq
set_option maxHeartbeats 4000000 in
set_option maxRecDepth 100000 in
theorem law_classes {sc : et_X} {mc ms : Nat} {h : Nat → et_MC} {n nc ns i : Nat} {Nx : (Nat → et_MC) → Nat → Prop} (hi : i + 4 ≤ sc.2.1) (hL : sc.2.1 ≤ 2048) (hmc : nc + 1000 ≤ mc) (hms : ns + 10000 ≤ ms) (hk : et_op sc 11 (sc.2.2 (i + 1)) (sc.2.2 (i + 2)) (sc.2.2 (i + 3)) h n Nx) (hK : ∀ (h' : Nat → et_MC) (n' nc' ns' : Nat), nc' ≤ nc + 1000 → ns' ≤ ns + 10000 → Nx h' n' → et_M sc Y_Law 900 mc ms et_one 669 [some (.retAddr sc.1), some (.ref 0), some (.ref 64), some (.ref 84), some (.int (nI i)), none, none, none] [] h' n' nc' ns') : et_M sc Y_Law 900 mc ms et_one 525 [some (.retAddr sc.1), some (.ref 0), some (.ref 64), some (.ref 84), some (.int (nI i)), none, none, none] [] h n nc ns := by
  obtain ⟨mcc, msc, Px, b1, b2, ⟨fs, f0⟩, hx, hy⟩ := hk
  refine et_aload_n (i := 1) d_Law_525 rfl rfl ?_
  refine et_invV mV_E_classes (As := []) rfl d_Law_526 lk_L_97 len_E_classes f0 rfl (Nat.le_of_ble_eq_true rfl) hx (Nat.le_of_ble_eq_true rfl) (by omega) (by omega) (fun v h1 n1 hp => ?_) (fun y h1 n1 hp => by obtain ⟨w, e, _⟩ := hy _ _ _ hp; cases e)
  obtain ⟨w, e, ⟨fs1, f1⟩, Py, hz, hn⟩ := hy _ _ _ hp
  cases e
  refine et_aload_n (i := 2) d_Law_529 rfl rfl ?_
  refine et_invV mV_M_classes (As := []) rfl d_Law_530 lk_L_100 len_M_classes f1 rfl (Nat.le_of_ble_eq_true rfl) hz (Nat.le_of_ble_eq_true rfl) (by omega) (by omega) (fun v h2 n2 hp2 => ?_) (fun y h2 n2 hp2 => by cases (hn _ _ _ hp2).1)
  obtain ⟨e, hq⟩ := hn _ _ _ hp2
  cases e
  refine et_icmp_eq (tgt := 669) d_Law_533 (by decide) (fun _ => ?_) (fun q => absurd rfl q)
  exact hK _ _ _ _ (by omega) (by omega) hq
set_option maxHeartbeats 4000000 in
set_option maxRecDepth 100000 in
theorem law_members {sc : et_X} {mc ms : Nat} {h : Nat → et_MC} {n nc ns i : Nat} {Nx : (Nat → et_MC) → Nat → Prop} (hi : i + 4 ≤ sc.2.1) (hL : sc.2.1 ≤ 2048) (hmc : nc + 1000 ≤ mc) (hms : ns + 10000 ≤ ms) (hk : et_op sc 12 (sc.2.2 (i + 1)) (sc.2.2 (i + 2)) (sc.2.2 (i + 3)) h n Nx) (hK : ∀ (h' : Nat → et_MC) (n' nc' ns' : Nat), nc' ≤ nc + 1000 → ns' ≤ ns + 10000 → Nx h' n' → et_M sc Y_Law 900 mc ms et_one 669 [some (.retAddr sc.1), some (.ref 0), some (.ref 64), some (.ref 84), some (.int (nI i)), none, none, none] [] h' n' nc' ns') : et_M sc Y_Law 900 mc ms et_one 538 [some (.retAddr sc.1), some (.ref 0), some (.ref 64), some (.ref 84), some (.int (nI i)), none, none, none] [] h n nc ns := by
  obtain ⟨mcc, msc, Px, b1, b2, hx, hy⟩ := hk
  refine et_aload_n (i := 1) d_Law_538 rfl rfl ?_
  refine et_aload_n (i := 3) d_Law_539 rfl rfl ?_
  refine et_invS mS_L_members (As := [_, _]) rfl d_Law_540 lk_L_101 len_L_members (Nat.le_of_ble_eq_true rfl) hx (Nat.le_of_ble_eq_true rfl) (by omega) (by omega) (fun v h1 n1 hp => ?_) (fun y h1 n1 hp => by obtain ⟨w, e, _⟩ := hy _ _ _ hp; cases e)
  obtain ⟨k, e, ⟨fs1, f1⟩, Py, hz, hn⟩ := hy _ _ _ hp
  cases e
  refine et_istore (lv' := [_, _, _, _, _, _, _, _]) d_Law_543 (by decide) rfl rfl ?_
  refine et_aload_n (i := 2) d_Law_545 rfl rfl ?_
  refine et_invV mV_M_members (As := []) rfl d_Law_546 lk_L_103 len_M_members f1 rfl (Nat.le_of_ble_eq_true rfl) hz (Nat.le_of_ble_eq_true rfl) (by omega) (by omega) (fun v h2 n2 hp2 => ?_) (fun y h2 n2 hp2 => by obtain ⟨v, e, _⟩ := hn _ _ _ hp2; cases e)
  obtain ⟨v2, e, ⟨fs2, f2⟩, han, hq⟩ := hn _ _ _ hp2
  cases e
  obtain ⟨b, hb, hout⟩ := han
  subst hb
  refine et_istore (lv' := [_, _, _, _, _, _, _, _]) d_Law_549 (by decide) rfl rfl ?_
  refine et_aload_n (i := 2) d_Law_551 rfl rfl ?_
  refine et_invV mV_M_thrown (As := []) rfl d_Law_552 lk_L_73 len_M_thrown f2 rfl (Nat.le_of_ble_eq_true rfl) (c_M_thrown (d := 899) f2) (Nat.le_of_ble_eq_true rfl) (by omega) (by omega) (fun v h3 n3 hp3 => ?_) (fun y h3 n3 hp3 => by cases hp3.1)
  obtain ⟨e, rfl, rfl⟩ := hp3
  cases e
  refine et_iload d_Law_555 rfl ?_
  refine et_icmp_eq (tgt := 562) d_Law_557 (by decide) (fun _ => ?_) (fun q => absurd rfl q)
  refine et_iload d_Law_562 rfl ?_
  refine et_if_ne (tgt := 579) d_Law_564 (by decide) (fun q0 => ?_) (fun q0 => ?_)
  · refine et_goto (tgt := 669) d_Law_579 (by decide) ?_
    refine et_weak et_w8 ?_
    exact hK _ _ _ _ (by omega) (by omega) hq
  · obtain ⟨g, g1, g2⟩ := hout q0
    refine et_aload_n (i := 3) d_Law_567 rfl rfl ?_
    refine et_iconst (v := 0) d_Law_568 (by decide) ?_
    refine et_lald d_Law_569 g1 (vp_in_nI (show 0 < 1 by decide) (by decide)) ?_
    refine et_iload d_Law_570 rfl ?_
    refine et_i2l d_Law_572 rfl ?_
    refine et_lcmp d_Law_573 ?_
    refine et_if_eq (tgt := 579) d_Law_574 (by decide) (fun _ => ?_) (fun q => absurd (et_cmp0 g2) q)
    refine et_goto (tgt := 669) d_Law_579 (by decide) ?_
    refine et_weak et_w8 ?_
    exact hK _ _ _ _ (by omega) (by omega) hq
set_option maxHeartbeats 4000000 in
set_option maxRecDepth 100000 in
theorem law_cost {sc : et_X} {mc ms : Nat} {h : Nat → et_MC} {n nc ns i : Nat} {Nx : (Nat → et_MC) → Nat → Prop} (hi : i + 4 ≤ sc.2.1) (hL : sc.2.1 ≤ 2048) (hmc : nc + 1000 ≤ mc) (hms : ns + 10000 ≤ ms) (hk : et_op sc 13 (sc.2.2 (i + 1)) (sc.2.2 (i + 2)) (sc.2.2 (i + 3)) h n Nx) (hK : ∀ (h' : Nat → et_MC) (n' nc' ns' : Nat), nc' ≤ nc + 1000 → ns' ≤ ns + 10000 → Nx h' n' → et_M sc Y_Law 900 mc ms et_one 669 [some (.retAddr sc.1), some (.ref 0), some (.ref 64), some (.ref 84), some (.int (nI i)), none, none, none] [] h' n' nc' ns') : et_M sc Y_Law 900 mc ms et_one 582 [some (.retAddr sc.1), some (.ref 0), some (.ref 64), some (.ref 84), some (.int (nI i)), none, none, none] [] h n nc ns := by
  obtain ⟨mcc, msc, Px, b1, b2, hx, hy⟩ := hk
  refine et_aload_n (i := 1) d_Law_582 rfl rfl ?_
  refine et_aload_n (i := 3) d_Law_583 rfl rfl ?_
  refine et_invS mS_L_cost (As := [_, _]) rfl d_Law_584 lk_L_104 len_L_cost (Nat.le_of_ble_eq_true rfl) hx (Nat.le_of_ble_eq_true rfl) (by omega) (by omega) (fun v h1 n1 hp => ?_) (fun y h1 n1 hp => by obtain ⟨w, e, _⟩ := hy _ _ _ hp; cases e)
  obtain ⟨k, e, ⟨fs1, f1⟩, Py, hz, hn⟩ := hy _ _ _ hp
  cases e
  refine et_istore (lv' := [_, _, _, _, _, _, _, _]) d_Law_587 (by decide) rfl rfl ?_
  refine et_aload_n (i := 2) d_Law_589 rfl rfl ?_
  refine et_invV mV_M_cost (As := []) rfl d_Law_590 lk_L_106 len_M_cost f1 rfl (Nat.le_of_ble_eq_true rfl) hz (Nat.le_of_ble_eq_true rfl) (by omega) (by omega) (fun v h2 n2 hp2 => ?_) (fun y h2 n2 hp2 => by obtain ⟨v, e, _⟩ := hn _ _ _ hp2; cases e)
  obtain ⟨v2, e, ⟨fs2, f2⟩, han, hq⟩ := hn _ _ _ hp2
  cases e
  obtain ⟨b, hb, hout⟩ := han
  subst hb
  refine et_lstore (lv' := [_, _, _, _, _, _, _, _]) d_Law_593 (by decide) rfl rfl ?_
  refine et_aload_n (i := 2) d_Law_595 rfl rfl ?_
  refine et_invV mV_M_thrown (As := []) rfl d_Law_596 lk_L_73 len_M_thrown f2 rfl (Nat.le_of_ble_eq_true rfl) (c_M_thrown (d := 899) f2) (Nat.le_of_ble_eq_true rfl) (by omega) (by omega) (fun v h3 n3 hp3 => ?_) (fun y h3 n3 hp3 => by cases hp3.1)
  obtain ⟨e, rfl, rfl⟩ := hp3
  cases e
  refine et_iload d_Law_599 rfl ?_
  refine et_icmp_eq (tgt := 606) d_Law_601 (by decide) (fun _ => ?_) (fun q => absurd rfl q)
  refine et_iload d_Law_606 rfl ?_
  refine et_if_ne (tgt := 622) d_Law_608 (by decide) (fun q0 => ?_) (fun q0 => ?_)
  · refine et_goto (tgt := 669) d_Law_622 (by decide) ?_
    refine et_weak et_w8 ?_
    exact hK _ _ _ _ (by omega) (by omega) hq
  · obtain ⟨g, g1, g2⟩ := hout q0
    refine et_aload_n (i := 3) d_Law_611 rfl rfl ?_
    refine et_iconst (v := 0) d_Law_612 (by decide) ?_
    refine et_lald d_Law_613 g1 (vp_in_nI (show 0 < 1 by decide) (by decide)) ?_
    refine et_lload d_Law_614 rfl ?_
    refine et_lcmp d_Law_616 ?_
    refine et_if_eq (tgt := 622) d_Law_617 (by decide) (fun _ => ?_) (fun q => absurd (et_cmp0 g2) q)
    refine et_goto (tgt := 669) d_Law_622 (by decide) ?_
    refine et_weak et_w8 ?_
    exact hK _ _ _ _ (by omega) (by omega) hq
set_option maxHeartbeats 4000000 in
set_option maxRecDepth 100000 in
theorem law_best {sc : et_X} {mc ms : Nat} {h : Nat → et_MC} {n nc ns i : Nat} {Nx : (Nat → et_MC) → Nat → Prop} (hi : i + 4 ≤ sc.2.1) (hL : sc.2.1 ≤ 2048) (hmc : nc + 1000 ≤ mc) (hms : ns + 10000 ≤ ms) (hk : et_op sc 14 (sc.2.2 (i + 1)) (sc.2.2 (i + 2)) (sc.2.2 (i + 3)) h n Nx) (hK : ∀ (h' : Nat → et_MC) (n' nc' ns' : Nat), nc' ≤ nc + 1000 → ns' ≤ ns + 10000 → Nx h' n' → et_M sc Y_Law 900 mc ms et_one 669 [some (.retAddr sc.1), some (.ref 0), some (.ref 64), some (.ref 84), some (.int (nI i)), none, none, none] [] h' n' nc' ns') : et_M sc Y_Law 900 mc ms et_one 625 [some (.retAddr sc.1), some (.ref 0), some (.ref 64), some (.ref 84), some (.int (nI i)), none, none, none] [] h n nc ns := by
  obtain ⟨mcc, msc, Px, b1, b2, hx, hy⟩ := hk
  refine et_aload_n (i := 1) d_Law_625 rfl rfl ?_
  refine et_aload_n (i := 3) d_Law_626 rfl rfl ?_
  refine et_invS mS_L_best (As := [_, _]) rfl d_Law_627 lk_L_107 len_L_best (Nat.le_of_ble_eq_true rfl) hx (Nat.le_of_ble_eq_true rfl) (by omega) (by omega) (fun v h1 n1 hp => ?_) (fun y h1 n1 hp => by obtain ⟨w, e, _⟩ := hy _ _ _ hp; cases e)
  obtain ⟨k, e, ⟨fs1, f1⟩, Py, hz, hn⟩ := hy _ _ _ hp
  cases e
  refine et_istore (lv' := [_, _, _, _, _, _, _, _]) d_Law_630 (by decide) rfl rfl ?_
  refine et_aload_n (i := 2) d_Law_632 rfl rfl ?_
  refine et_invV mV_M_best (As := []) rfl d_Law_633 lk_L_109 len_M_best f1 rfl (Nat.le_of_ble_eq_true rfl) hz (Nat.le_of_ble_eq_true rfl) (by omega) (by omega) (fun v h2 n2 hp2 => ?_) (fun y h2 n2 hp2 => by obtain ⟨v, e, _⟩ := hn _ _ _ hp2; cases e)
  obtain ⟨v2, e, ⟨fs2, f2⟩, han, hq⟩ := hn _ _ _ hp2
  cases e
  obtain ⟨b, hb, hout⟩ := han
  subst hb
  refine et_istore (lv' := [_, _, _, _, _, _, _, _]) d_Law_636 (by decide) rfl rfl ?_
  refine et_aload_n (i := 2) d_Law_638 rfl rfl ?_
  refine et_invV mV_M_thrown (As := []) rfl d_Law_639 lk_L_73 len_M_thrown f2 rfl (Nat.le_of_ble_eq_true rfl) (c_M_thrown (d := 899) f2) (Nat.le_of_ble_eq_true rfl) (by omega) (by omega) (fun v h3 n3 hp3 => ?_) (fun y h3 n3 hp3 => by cases hp3.1)
  obtain ⟨e, rfl, rfl⟩ := hp3
  cases e
  refine et_iload d_Law_642 rfl ?_
  refine et_icmp_eq (tgt := 649) d_Law_644 (by decide) (fun _ => ?_) (fun q => absurd rfl q)
  refine et_iload d_Law_649 rfl ?_
  refine et_if_ne (tgt := 666) d_Law_651 (by decide) (fun q0 => ?_) (fun q0 => ?_)
  · refine et_goto (tgt := 669) d_Law_666 (by decide) ?_
    refine et_weak et_w8 ?_
    exact hK _ _ _ _ (by omega) (by omega) hq
  · obtain ⟨g, g1, g2⟩ := hout q0
    refine et_aload_n (i := 3) d_Law_654 rfl rfl ?_
    refine et_iconst (v := 0) d_Law_655 (by decide) ?_
    refine et_lald d_Law_656 g1 (vp_in_nI (show 0 < 1 by decide) (by decide)) ?_
    refine et_iload d_Law_657 rfl ?_
    refine et_i2l d_Law_659 rfl ?_
    refine et_lcmp d_Law_660 ?_
    refine et_if_eq (tgt := 666) d_Law_661 (by decide) (fun _ => ?_) (fun q => absurd (et_cmp0 g2) q)
    refine et_goto (tgt := 669) d_Law_666 (by decide) ?_
    refine et_weak et_w8 ?_
    exact hK _ _ _ _ (by omega) (by omega) hq
set_option maxHeartbeats 4000000 in
set_option maxRecDepth 100000 in
theorem law_iter {sc : et_X} {mc ms : Nat} {h : Nat → et_MC} {n nc ns i : Nat} {Nx : (Nat → et_MC) → Nat → Prop} (hi : i + 4 ≤ sc.2.1) (hL : sc.2.1 ≤ 2048) (hmc : nc + 1000 ≤ mc) (hms : ns + 10000 ≤ ms) (hk : ∀ k : Nat, k < 16 → sc.2.2 i &&& 15 = nI k → et_op sc k (sc.2.2 (i + 1)) (sc.2.2 (i + 2)) (sc.2.2 (i + 3)) h n Nx) (hK : ∀ (h' : Nat → et_MC) (n' nc' ns' : Nat), nc' ≤ nc + 1000 → ns' ≤ ns + 10000 → Nx h' n' → et_M sc Y_Law 900 mc ms et_one 669 [some (.retAddr sc.1), some (.ref 0), some (.ref 64), some (.ref 84), some (.int (nI i)), none, none, none] [] h' n' nc' ns') : et_M sc Y_Law 900 mc ms et_one 32 [some (.retAddr sc.1), some (.ref 0), some (.ref 64), some (.ref 84), some (.int (nI i)), none, none, none] [] h n nc ns := by
  refine et_sload (i := 0) d_Law_32 rfl rfl ?_
  refine et_iload d_Law_33 rfl ?_
  refine et_sld d_Law_35 (vp_in_nI (show i < sc.2.1 by omega) (by omega)) ?_
  rw [nI_clamp (by omega)]
  refine et_bipush (v := 15) d_Law_36 (by decide) ?_
  refine et_iand d_Law_38 ?_
  obtain ⟨k, hk16, hke⟩ := et_and15 (sc.2.2 i)
  have ho := hk k hk16 hke
  rw [hke]
  match k, hk16, ho with
  | 0, _, ho => exact et_tableIn (tgt := 112) d_Law_39 (by decide) (by decide) (off := 73) rfl (by decide) (law_type hi hL hmc hms ho hK)
  | 1, _, ho => exact et_tableIn (tgt := 181) d_Law_39 (by decide) (by decide) (off := 142) rfl (by decide) (law_wipe hi hL hmc hms ho hK)
  | 2, _, ho => exact et_tableIn (tgt := 194) d_Law_39 (by decide) (by decide) (off := 155) rfl (by decide) (law_character hi hL hmc hms ho hK)
  | 3, _, ho => exact et_tableIn (tgt := 219) d_Law_39 (by decide) (by decide) (off := 180) rfl (by decide) (law_place hi hL hmc hms ho hK)
  | 4, _, ho => exact et_tableIn (tgt := 232) d_Law_39 (by decide) (by decide) (off := 193) rfl (by decide) (law_rule hi hL hmc hms ho hK)
  | 5, _, ho => exact et_tableIn (tgt := 276) d_Law_39 (by decide) (by decide) (off := 237) rfl (by decide) (law_add hi hL hmc hms ho hK)
  | 6, _, ho => exact et_tableIn (tgt := 320) d_Law_39 (by decide) (by decide) (off := 281) rfl (by decide) (law_unite hi hL hmc hms ho hK)
  | 7, _, ho => exact et_tableIn (tgt := 364) d_Law_39 (by decide) (by decide) (off := 325) rfl (by decide) (law_same hi hL hmc hms ho hK)
  | 8, _, ho => exact et_tableIn (tgt := 408) d_Law_39 (by decide) (by decide) (off := 369) rfl (by decide) (law_price hi hL hmc hms ho hK)
  | 9, _, ho => exact et_tableIn (tgt := 456) d_Law_39 (by decide) (by decide) (off := 417) rfl (by decide) (law_rounds hi hL hmc hms ho hK)
  | 10, _, ho => exact et_tableIn (tgt := 512) d_Law_39 (by decide) (by decide) (off := 473) rfl (by decide) (law_nodes hi hL hmc hms ho hK)
  | 11, _, ho => exact et_tableIn (tgt := 525) d_Law_39 (by decide) (by decide) (off := 486) rfl (by decide) (law_classes hi hL hmc hms ho hK)
  | 12, _, ho => exact et_tableIn (tgt := 538) d_Law_39 (by decide) (by decide) (off := 499) rfl (by decide) (law_members hi hL hmc hms ho hK)
  | 13, _, ho => exact et_tableIn (tgt := 582) d_Law_39 (by decide) (by decide) (off := 543) rfl (by decide) (law_cost hi hL hmc hms ho hK)
  | 14, _, ho => exact et_tableIn (tgt := 625) d_Law_39 (by decide) (by decide) (off := 586) rfl (by decide) (law_best hi hL hmc hms ho hK)
  | 15, _, ho => exact et_tableOut (tgt := 669) d_Law_39 (by decide) (by decide) (hK _ _ _ _ (by omega) (by omega) ho)
  | j + 16, hj, _ => exact absurd hj (by omega)
theorem et_E0.same {h h' : Nat → et_MC} (e : ∀ k, k < 64 → h' k = h k) (H : et_E0 h) : et_E0 h' := by
  have e40 : ∀ i, i < 40 → h' (22 + i) = h (22 + i) := fun i hi => e _ (by omega)
  unfold et_E0 at H ⊢
  simp only [e 0 (by decide), e 1 (by decide), e 2 (by decide), e 3 (by decide), e 4 (by decide), e 5 (by decide), e 6 (by decide), e 7 (by decide), e 8 (by decide), e 9 (by decide), e 10 (by decide), e 11 (by decide), e 12 (by decide), e 13 (by decide), e 14 (by decide), e 15 (by decide), e 16 (by decide), e 17 (by decide), e 18 (by decide), e 19 (by decide), e 20 (by decide), e 21 (by decide), e 62 (by decide), e 63 (by decide)]
  obtain ⟨a1, a2, a3, a4, a5, a6, a7, ⟨b1, b2, b3, b4, b5, b6, b7⟩, a9⟩ := H
  exact ⟨a1, a2, a3, a4, a5, a6, a7, ⟨b1, b2, b3, b4, b5, fun i hi => (e40 i hi).trans (b6 i hi), b7⟩, a9⟩
theorem et_M0.same {h h' : Nat → et_MC} (e : ∀ k, 64 ≤ k → k < 84 → h' k = h k) (H : et_M0 h) : et_M0 h' := by
  unfold et_M0 at H ⊢
  simp only [e 64 (by decide) (by decide), e 65 (by decide) (by decide), e 66 (by decide) (by decide), e 67 (by decide) (by decide), e 68 (by decide) (by decide), e 69 (by decide) (by decide), e 70 (by decide) (by decide), e 71 (by decide) (by decide), e 72 (by decide) (by decide), e 73 (by decide) (by decide), e 74 (by decide) (by decide), e 75 (by decide) (by decide), e 76 (by decide) (by decide), e 77 (by decide) (by decide), e 78 (by decide) (by decide), e 79 (by decide) (by decide), e 80 (by decide) (by decide), e 81 (by decide) (by decide), e 82 (by decide) (by decide), e 83 (by decide) (by decide)]
  exact H
set_option maxHeartbeats 4000000 in
set_option maxRecDepth 100000 in
theorem law_start {sc : et_X} {mc ms : Nat} (hmc : 1000 ≤ mc) (hms : 100000 ≤ ms) (hK : ∀ h : Nat → et_MC, et_E0 h → et_M0 h → h 84 = .inl (1, 1, .inr (.inl (fun _ => 0))) → et_M sc Y_Law 900 mc ms et_one 23 [some (.retAddr sc.1), some (.ref 0), some (.ref 64), some (.ref 84), some (.int (nI 0)), none, none, none] [] h 85 85 15721) : et_M sc Y_Law 900 mc ms et_one 0 [some (.retAddr sc.1), none, none, none, none, none, none, none] [] (fun _ => et_void) 0 0 0 := by
  refine et_new (ci := 6) (fs := [.null, .null, .null, .null, .null, .null, .int 0]) (ty0 := ft_E) d_Law_0 rfl in_E ty_E cl_L_8 ins_E ini_E (fun B j hj => by rcases (show j = 0 ∨ j = 1 ∨ j = 2 ∨ j = 3 ∨ j = 4 ∨ j = 5 ∨ j = 6 by omega) with rfl | rfl | rfl | rfl | rfl | rfl | rfl <;> rfl) (by omega) (by omega) ?_
  refine et_dup d_Law_3 rfl ?_
  refine et_invI mI_E_init (As := []) rfl d_Law_4 lk_L_44 len_E_init (Nat.le_of_ble_eq_true rfl) (c_E_init (d := 800) rfl) (by decide) (by omega) (by omega) (fun v h1 n1 hp => ?_) (fun y h1 n1 hp => by cases hp.1)
  obtain ⟨e, rfl, hE⟩ := hp
  cases e
  refine et_astore_n (i := 1) (lv' := [_, _, _, _, _, _, _, _]) d_Law_7 rfl (by decide) rfl rfl ?_
  refine et_new (ci := 7) (fs := [.int 0, .null, .int 0, .int 0, .int 0, .int 0, .int 0, .int 0, .int 0, .null, .null, .int 0, .int 0, .null, .null, .null, .null, .null, .null, .int 0, .null, .int 0, .null, .null, .null, .null, .null, .null, .null, .null, .null, .long 0, .long 0]) (ty0 := ft_M) d_Law_8 rfl in_M ty_M cl_L_45 ins_M ini_M (fun B j hj => by rcases (show j = 0 ∨ j = 1 ∨ j = 2 ∨ j = 3 ∨ j = 4 ∨ j = 5 ∨ j = 6 ∨ j = 7 ∨ j = 8 ∨ j = 9 ∨ j = 10 ∨ j = 11 ∨ j = 12 ∨ j = 13 ∨ j = 14 ∨ j = 15 ∨ j = 16 ∨ j = 17 ∨ j = 18 ∨ j = 19 ∨ j = 20 ∨ j = 21 ∨ j = 22 ∨ j = 23 ∨ j = 24 ∨ j = 25 ∨ j = 26 ∨ j = 27 ∨ j = 28 ∨ j = 29 ∨ j = 30 ∨ j = 31 ∨ j = 32 by omega) with rfl | rfl | rfl | rfl | rfl | rfl | rfl | rfl | rfl | rfl | rfl | rfl | rfl | rfl | rfl | rfl | rfl | rfl | rfl | rfl | rfl | rfl | rfl | rfl | rfl | rfl | rfl | rfl | rfl | rfl | rfl | rfl | rfl <;> rfl) (by omega) (by omega) ?_
  refine et_dup d_Law_11 rfl ?_
  refine et_invI mI_M_init (As := []) rfl d_Law_12 lk_L_47 len_M_init (Nat.le_of_ble_eq_true rfl) (c_M_init (d := 800) rfl) (by decide) (by omega) (by omega) (fun v h2 n2 hp => ?_) (fun y h2 n2 hp => by cases hp.1)
  obtain ⟨e, rfl, hM, fr⟩ := hp
  cases e
  refine et_astore_n (i := 2) (lv' := [_, _, _, _, _, _, _, _]) d_Law_15 rfl (by decide) rfl rfl ?_
  refine et_iconst (v := 1) d_Law_16 (by decide) ?_
  refine et_newl (N := 1) d_Law_17 rfl ac_long (by decide) (by decide) (by decide) (by omega) (by omega) ?_
  refine et_astore_n (i := 3) (lv' := [_, _, _, _, _, _, _, _]) d_Law_19 rfl (by decide) rfl rfl ?_
  refine et_iconst (v := 0) d_Law_20 (by decide) ?_
  refine et_istore (lv' := [_, _, _, _, _, _, _, _]) d_Law_21 (by decide) rfl rfl ?_
  refine hK _ (et_E0.same (fun k hk => ?_) hE) (et_M0.same (fun k h1 h2 => ?_) hM) rfl
  · have e1 : k ≠ 84 := by omega
    have e2 : k ≠ 64 := by omega
    simp only [va_up, if_neg e1]
    rw [fr k hk]
    simp [va_up, e2]
  · have e1 : k ≠ 84 := by omega
    simp [va_up, e1]
