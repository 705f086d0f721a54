theorem et_w62 {a b c d o4 o5 : Option Value} : ∀ (j : Nat) (v : Value), ([a, b, c, d, none, none] : List (Option Value))[j]? = some (some v) → ([a, b, c, d, o4, o5] : List (Option Value))[j]? = some (some v)
  | 0, _, h => h
  | 1, _, h => h
  | 2, _, h => h
  | 3, _, h => h
  | 4, _, h => by simp at h
  | 5, _, h => by simp at h
  | j + 6, _, h => by simp at h
/-! ===== new Rule, rule() ===== -/
/-- a rule in the class's cells: its row, where '=' stands, how long it is -/
def et_RU (k : Nat) (row : Nat → Int32) (e len : Nat) (h : Nat → et_MC) : Prop := h k = .inr (3, [.ref (k + 3), .int (nI e), .ref (k + 1), .ref (k + 2)]) ∧ h (k + 3) = .inl (0, len, .inl row) ∧
  (∃ sp, h (k + 1) = .inl (0, 7, .inl sp) ∧ ∀ p, p < e → et_pt (row p) = 2 → sp p = nI ((stN row e (e - (p + 1))).getD 1 e)) ∧ ∃ bd, h (k + 2) = .inl (2, 7, .inl bd) ∧ ∀ p, p < e → et_isv (row p) → bd p = bI (!(inF row (row p) p))
/-- the variables met so far, as bits -/
def mkB (a b c : Bool) : Int32 := (if a = true then 1 else 0) ||| (if b = true then 2 else 0) ||| (if c = true then 4 else 0)
def metB (row : Nat → Int32) (p : Nat) : Int32 := mkB (inF row 97 p) (inF row 98 p) (inF row 99 p)
theorem metB_0 (row : Nat → Int32) : metB row 0 = 0 := by
  unfold metB
  simp only [inF]
  decide
theorem mk_test : ∀ a b c : Bool, (mkB a b c &&& 1 = 0 ↔ a = false) ∧ (mkB a b c &&& 2 = 0 ↔ b = false) ∧ (mkB a b c &&& 4 = 0 ↔ c = false) := by decide
theorem mk_or : ∀ a b c : Bool, mkB a b c ||| 1 = mkB true b c ∧ mkB a b c ||| 2 = mkB a true c ∧ mkB a b c ||| 4 = mkB a b true := by decide
theorem isv_cases {c : Int32} (h : et_isv c) : c = 97 ∨ c = 98 ∨ c = 99 := by
  obtain ⟨h1, -, h3⟩ := et_isv_in h
  rw [h3]
  rcases (show (c - 97).toNatClampNeg = 0 ∨ (c - 97).toNatClampNeg = 1 ∨ (c - 97).toNatClampNeg = 2 by omega) with e | e | e <;> rw [e]
  · exact Or.inl rfl
  · exact Or.inr (Or.inl rfl)
  · exact Or.inr (Or.inr rfl)
theorem met_test {row : Nat → Int32} {p : Nat} {c : Int32} (h : et_isv c) : metB row p &&& ((1 : Int32) <<< ((c - 97) &&& 31)) = 0 ↔ inF row c p = false := by
  rcases isv_cases h with rfl | rfl | rfl
  · exact (mk_test _ _ _).1
  · exact (mk_test _ _ _).2.1
  · exact (mk_test _ _ _).2.2
theorem met_or {row : Nat → Int32} {p : Nat} (h : et_isv (row p)) : metB row p ||| ((1 : Int32) <<< ((row p - 97) &&& 31)) = metB row (p + 1) := by
  unfold metB
  simp only [inF]
  rcases isv_cases h with e | e | e <;> rw [e]
  · rw [show (1 : Int32) <<< ((97 - 97 : Int32) &&& 31) = 1 from rfl, (mk_or _ _ _).1]
    simp
  · rw [show (1 : Int32) <<< ((98 - 97 : Int32) &&& 31) = 2 from rfl, (mk_or _ _ _).2.1]
    simp
  · rw [show (1 : Int32) <<< ((99 - 97 : Int32) &&& 31) = 4 from rfl, (mk_or _ _ _).2.2]
    simp
theorem met_no {row : Nat → Int32} {p : Nat} (h : ¬ et_isv (row p)) : metB row (p + 1) = metB row p := by
  have a1 : row p ≠ 97 := fun z => h (by rw [z]; decide)
  have a2 : row p ≠ 98 := fun z => h (by rw [z]; decide)
  have a3 : row p ≠ 99 := fun z => h (by rw [z]; decide)
  unfold metB
  simp [inF, a1, a2, a3]
/-- what a rule's text must be for the class's own rows -/
def rOk (row : Nat → Int32) (e len : Nat) : Prop := (∃ m, wf m row 0 e) ∧ (∃ m, wf m row (e + 1) len) ∧ e ≤ 7 ∧ len ≤ e + 8 ∧ e < len ∧ ∀ j, e < j → j < len → et_isv (row j) → inF row (row j) e = true
set_option maxHeartbeats 4000000 in
set_option maxRecDepth 100000 in
theorem c_U_init {sc : et_X} {h : Nat → et_MC} {d n : Nat} {f : Nat → Int32} {wp : Int32} {k sz e : Nat} (hkn : n = k + 1) (hk : 85 ≤ k) (h0 : h k = .inr (3, [.null, .int 0, .null, .null])) (h1 : h 1 = .inr (4, [.ref 2, .int (nI sz), .int (nI e), .int wp])) (h2 : h 2 = .inl (0, 60, .inl f)) (hr : rOk f e sz) : et_Cn sc Y_U_init (d + 3) [.ref k, .ref 1] h n 3 74 (fun r h' n' => r = .inl none ∧ n' = n + 3 ∧ (∀ q, q < n → q ≠ k → h' q = h q) ∧ ∃ row, (∀ i, i < sz → row i = f i) ∧ et_RU k row e sz h') := by
  refine et_Cn.of 4 rfl rfl (by decide) mI_U_init.1 ?_
  obtain ⟨⟨m1, hw1⟩, ⟨m2, hw2⟩, r3, r4, r5, r6⟩ := hr
  subst hkn
  have loop : ∀ (t p : Nat) (row sp bd : Nat → Int32) (hh : Nat → et_MC), p + t = e → (∀ i, i < sz → row i = f i) → (∀ q, q < k + 1 → q ≠ k → hh q = h q) → hh k = .inr (3, [.ref (k + 3), .int (nI e), .ref (k + 1), .ref (k + 2)]) → hh (k + 3) = .inl (0, sz, .inl row) → hh (k + 1) = .inl (0, 7, .inl sp) → hh (k + 2) = .inl (2, 7, .inl bd) → (∀ q, q < p → et_pt (row q) = 2 → sp q = nI ((stN row e (e - (q + 1))).getD 1 e)) → (∀ q, q < p → et_isv (row q) → bd q = bI (!(inF row (row q) q))) → et_M sc Y_U_init (d + 3) 3 74 (fun r h' n' => r = .inl none ∧ n' = k + 1 + 3 ∧ (∀ q, q < k + 1 → q ≠ k → h' q = h q) ∧ ∃ row, (∀ i, i < sz → row i = f i) ∧ et_RU k row e sz h') 47 [some (.ref k), some (.ref 1), some (.int (metB row p)), some (.int (nI p)), none, none] [] hh (k + 4) 3 74 := by
    intro t
    induction t with
    | zero =>
      intro p row sp bd hh hp hrow hfr g0 g3 g1 g2 hs hb
      obtain rfl : p = e := by omega
      refine et_iload_n (i := 3) d_U_init_47 rfl rfl ?_
      refine et_aload_n (i := 0) d_U_init_48 rfl rfl ?_
      refine et_getf (ci := 3) 1 d_U_init_49 g0 rfl in_U (by decide) fl_U_38 rfl ?_
      refine et_icmp_ge (tgt := 144) d_U_init_52 (by decide) (fun _ => ?_) (fun q => absurd (nI_le (Nat.le_refl _) (by omega)) q)
      exact et_vret d_U_init_144 rfl (Nat.le_refl _) (Nat.le_refl _) ⟨rfl, rfl, hfr, row, hrow, g0, g3, ⟨sp, g1, hs⟩, bd, g2, hb⟩
    | succ t ih =>
      intro p row sp bd hh hp hrow hfr g0 g3 g1 g2 hs hb
      have hwr : wf m1 row 0 e := ⟨hw1.1, hw1.2.1, hw1.2.2.1, fun i h1 h2 => by rw [hrow i (by omega)]; exact hw1.2.2.2 i h1 h2⟩
      have hpr := (hwr.2.2.2 p (by omega) (by omega)).1
      -- the second part, and on
      have rest : ∀ (bd' : Nat → Int32) (hh : Nat → et_MC) (o5 : Option Value), (∀ q, q < k + 1 → q ≠ k → hh q = h q) → hh k = .inr (3, [.ref (k + 3), .int (nI e), .ref (k + 1), .ref (k + 2)]) → hh (k + 3) = .inl (0, sz, .inl row) → hh (k + 1) = .inl (0, 7, .inl sp) → hh (k + 2) = .inl (2, 7, .inl bd') → (∀ q, q < p + 1 → et_isv (row q) → bd' q = bI (!(inF row (row q) q))) → et_M sc Y_U_init (d + 3) 3 74 (fun r h' n' => r = .inl none ∧ n' = k + 1 + 3 ∧ (∀ q, q < k + 1 → q ≠ k → h' q = h q) ∧ ∃ row, (∀ i, i < sz → row i = f i) ∧ et_RU k row e sz h') 109 [some (.ref k), some (.ref 1), some (.int (metB row (p + 1))), some (.int (nI p)), some (.int (row p)), o5] [] hh (k + 4) 3 74 := by
        intro bd' hh o5 hfr g0 g3 g1 g2 hb
        have nxt : ∀ (sp' : Nat → Int32), sp' p = (if et_pt (row p) = 2 then nI ((stN row e (e - (p + 1))).getD 1 e) else -1) → (∀ q, q ≠ p → sp' q = sp q) → et_M sc Y_U_init (d + 3) 3 74 (fun r h' n' => r = .inl none ∧ n' = k + 1 + 3 ∧ (∀ q, q < k + 1 → q ≠ k → h' q = h q) ∧ ∃ row, (∀ i, i < sz → row i = f i) ∧ et_RU k row e sz h') 138 [some (.ref k), some (.ref 1), some (.int (metB row (p + 1))), some (.int (nI p)), some (.int (row p)), o5] [] (va_up hh (k + 1) (.inl (0, 7, .inl sp'))) (k + 4) 3 74 := by
          intro sp' e1 e2
          refine et_iinc (lv' := [_, _, _, _, _, _]) d_U_init_138 rfl (v := nI (p + 1)) (nI_1 p) (by decide) rfl rfl ?_
          refine et_goto (tgt := 47) d_U_init_141 (by decide) ?_
          refine et_weak et_w62 (ih (p + 1) row sp' bd' _ (by omega) hrow (fun q h1 h2 => (va_ne (by omega)).trans (hfr q h1 h2)) ((va_ne (by omega)).trans g0) ((va_ne (by omega)).trans g3) va_eq ((va_ne (by omega)).trans g2) (fun q hq hq2 => ?_) hb)
          by_cases eq : q = p
          · subst eq; rw [e1, if_pos hq2]
          · rw [e2 q eq]; exact hs q (by omega) hq2
        refine et_aload_n (i := 0) d_U_init_109 rfl rfl ?_
        refine et_getf (ci := 3) 2 d_U_init_110 g0 rfl in_U (by decide) fl_U_9 rfl ?_
        refine et_iload_n (i := 3) d_U_init_113 rfl rfl ?_
        refine et_iload d_U_init_114 rfl ?_
        refine et_invS mS_S_parts (As := [_]) rfl d_U_init_116 lk_U_45 len_S_parts (Nat.le_of_ble_eq_true rfl) (c_S_parts (d := d) (row p)) (by omega) (by omega) (by omega) (fun v h' n' hp => ?_) (fun x h' n' hp => by cases hp.1)
        obtain ⟨hv, hn2, hh2⟩ := hp
        cases hv
        subst hh2
        replace hn2 := hn2.symm
        subst hn2
        refine et_iconst (v := 2) d_U_init_119 (by decide) ?_
        refine et_icmp_ne (tgt := 136) d_U_init_120 (by decide) (fun q => ?_) (fun q => ?_)
        · refine et_iconst (v := (-1)) d_U_init_136 (by decide) ?_
          refine et_iasn d_U_init_137 g1 (by omega) (by decide) ?_
          exact nxt _ (by rw [pk_us, if_neg q]) (fun q2 e => pk_un e)
        · have q2 : et_pp (row p) = 2 := by rw [et_pp, if_neg (fun z => by have := et_isv_pt z; rw [q] at this; exact absurd this (by decide))]; exact q
          have hpe : p + 1 < e := by
            obtain ⟨-, w2, w3⟩ := hwr.2.2.2 p (by omega) (by omega)
            rw [pw_2 q2] at w2
            rcases Nat.lt_or_ge (p + 1) e with z | z
            · exact z
            · rw [show p + 1 = e by omega, hwr.2.2.1] at w2; omega
          refine et_aload_n (i := 0) d_U_init_123 rfl rfl ?_
          refine et_getf (ci := 3) 0 d_U_init_124 g0 rfl in_U (by decide) fl_U_34 rfl ?_
          refine et_iload_n (i := 3) d_U_init_127 rfl rfl ?_
          refine et_iconst (v := 1) d_U_init_128 (by decide) ?_
          refine et_iadd d_U_init_129 ?_
          rw [nI_1]
          refine et_invS mS_U_endOfPattern (As := [_, _]) rfl d_U_init_130 lk_U_49 len_U_endOfPattern (Nat.le_of_ble_eq_true rfl) (c_U_endOfPattern (d := d) (mm := m1) (fr := 0) (e := e) (p + 1) g3 r5 (by omega) hwr (Nat.zero_le _) hpe) (Nat.le_refl _) (by omega) (by omega) (fun v h' n' hp => ?_) (fun x h' n' hp => by cases hp.1)
          obtain ⟨hv, hn2, hh2⟩ := hp
          cases hv
          subst hh2
          replace hn2 := hn2.symm
          subst hn2
          refine et_goto (tgt := 137) d_U_init_133 (by decide) ?_
          refine et_iasn d_U_init_137 g1 (by omega) (by decide) ?_
          exact nxt _ (by rw [pk_us, if_pos q]) (fun q2 e => pk_un e)
      refine et_iload_n (i := 3) d_U_init_47 rfl rfl ?_
      refine et_aload_n (i := 0) d_U_init_48 rfl rfl ?_
      refine et_getf (ci := 3) 1 d_U_init_49 g0 rfl in_U (by decide) fl_U_38 rfl ?_
      refine et_icmp_ge (tgt := 144) d_U_init_52 (by decide) (fun q => absurd q (nI_ge (by omega) (by omega))) (fun _ => ?_)
      refine et_iload_n (i := 3) d_U_init_55 rfl rfl ?_
      refine et_bipush (v := 7) d_U_init_56 (by decide) ?_
      refine et_icmp_ge (tgt := 144) d_U_init_58 (by decide) (fun q => absurd q (show ¬ (7 : Int32) ≤ nI p from nI_ge (a := p) (b := 7) (by omega) (by decide))) (fun _ => ?_)
      refine et_aload_n (i := 0) d_U_init_61 rfl rfl ?_
      refine et_getf (ci := 3) 0 d_U_init_62 g0 rfl in_U (by decide) fl_U_34 rfl ?_
      refine et_iload_n (i := 3) d_U_init_65 rfl rfl ?_
      refine et_ialn d_U_init_66 g3 (by omega) (by first | decide | omega) ?_
      refine et_istore (lv' := [_, _, _, _, _, _]) d_U_init_67 (by decide) rfl rfl ?_
      refine et_iload d_U_init_69 rfl ?_
      refine et_invS mS_S_isVariable (As := [_]) rfl d_U_init_71 lk_U_39 len_S_isVariable (Nat.le_of_ble_eq_true rfl) (c_S_isVariable (d := d) (row p)) (by omega) (by omega) (by omega) (fun v h' n' hp => ?_) (fun x h' n' hp => by cases hp.1)
      obtain ⟨hv, hn2, hh2⟩ := hp
      cases hv
      subst hh2
      replace hn2 := hn2.symm
      subst hn2
      by_cases ev : et_isv (row p)
      · rw [if_pos ev]
        refine et_if_eq (tgt := 109) d_U_init_74 (by decide) (fun q => absurd q (by decide)) (fun _ => ?_)
        refine et_iconst (v := 1) d_U_init_77 (by decide) ?_
        refine et_iload d_U_init_78 rfl ?_
        refine et_bipush (v := 97) d_U_init_80 (by decide) ?_
        refine et_isub d_U_init_82 ?_
        refine et_ishl d_U_init_83 ?_
        refine et_istore (lv' := [_, _, _, _, _, _]) d_U_init_84 (by decide) rfl rfl ?_
        refine et_aload_n (i := 0) d_U_init_86 rfl rfl ?_
        refine et_getf (ci := 3) 3 d_U_init_87 g0 rfl in_U (by decide) fl_U_15 rfl ?_
        refine et_iload_n (i := 3) d_U_init_90 rfl rfl ?_
        refine et_iload_n (i := 2) d_U_init_91 rfl rfl ?_
        refine et_iload d_U_init_92 rfl ?_
        refine et_iand d_U_init_94 ?_
        refine et_if_ne (tgt := 102) d_U_init_95 (by decide) (fun q => ?_) (fun q => ?_)
        · have q2 : inF row (row p) p = true := by
            cases hi : inF row (row p) p with
            | true => rfl
            | false => exact absurd ((met_test ev).mpr hi) q
          refine et_iconst (v := 0) d_U_init_102 (by decide) ?_
          refine et_zast d_U_init_103 g2 (vp_in_nI (show p < 7 by omega) (by decide)) ?_
          rw [nI_clamp (by omega)]
          refine et_iload_n (i := 2) d_U_init_104 rfl rfl ?_
          refine et_iload d_U_init_105 rfl ?_
          refine et_ior d_U_init_107 ?_
          rw [met_or ev]
          refine et_istore_n (i := 2) (lv' := [_, _, _, _, _, _]) d_U_init_108 rfl (by decide) rfl rfl ?_
          refine rest _ _ _ (fun q h1 h2 => (va_ne (by omega)).trans (hfr q h1 h2)) ((va_ne (by omega)).trans g0) ((va_ne (by omega)).trans g3) ((va_ne (by omega)).trans g1) va_eq (fun q hq hq2 => ?_)
          by_cases eq : q = p
          · subst eq; rw [pk_us, q2]; rfl
          · rw [pk_un eq]; exact hb q (by omega) hq2
        · have q2 : inF row (row p) p = false := (met_test ev).mp q
          refine et_iconst (v := 1) d_U_init_98 (by decide) ?_
          refine et_goto (tgt := 103) d_U_init_99 (by decide) ?_
          refine et_zast d_U_init_103 g2 (vp_in_nI (show p < 7 by omega) (by decide)) ?_
          rw [nI_clamp (by omega)]
          refine et_iload_n (i := 2) d_U_init_104 rfl rfl ?_
          refine et_iload d_U_init_105 rfl ?_
          refine et_ior d_U_init_107 ?_
          rw [met_or ev]
          refine et_istore_n (i := 2) (lv' := [_, _, _, _, _, _]) d_U_init_108 rfl (by decide) rfl rfl ?_
          refine rest _ _ _ (fun q h1 h2 => (va_ne (by omega)).trans (hfr q h1 h2)) ((va_ne (by omega)).trans g0) ((va_ne (by omega)).trans g3) ((va_ne (by omega)).trans g1) va_eq (fun q hq hq2 => ?_)
          by_cases eq : q = p
          · subst eq; rw [pk_us, q2]; rfl
          · rw [pk_un eq]; exact hb q (by omega) hq2
      · rw [if_neg ev]
        refine et_if_eq (tgt := 109) d_U_init_74 (by decide) (fun _ => ?_) (fun q => absurd (by decide) q)
        rw [← met_no ev]
        refine rest bd _ _ hfr g0 g3 g1 g2 (fun q hq hq2 => ?_)
        by_cases eq : q = p
        · subst eq; exact absurd hq2 ev
        · exact hb q (by omega) hq2
  refine et_aload_n (i := 0) d_U_init_0 rfl rfl ?_
  refine et_objInit d_U_init_1 ml_U_3 ob_inst ob_code (Nat.le_of_ble_eq_true rfl) ?_
  refine et_aload_n (i := 0) d_U_init_4 rfl rfl ?_
  refine et_bipush (v := 7) d_U_init_5 (by decide) ?_
  refine et_newi (N := 7) d_U_init_7 rfl ac_int (by decide) (by decide) (by decide) (Nat.le_of_ble_eq_true rfl) (Nat.le_of_ble_eq_true rfl) ?_
  refine et_putF (ci := 3) 2 d_U_init_9 ((va_ne (by omega)).trans h0) rfl in_U ty_U nm_U (by decide) fl_U_9 rfl rfl rfl rfl (fun _ => rfl) (fun _ => rfl) (Nat.le_of_ble_eq_true rfl) (fs' := [_, _, _, _]) rfl ?_
  refine et_aload_n (i := 0) d_U_init_12 rfl rfl ?_
  refine et_bipush (v := 7) d_U_init_13 (by decide) ?_
  refine et_newz (N := 7) d_U_init_15 rfl ac_boolean (by decide) (by decide) (by decide) (Nat.le_of_ble_eq_true rfl) (Nat.le_of_ble_eq_true rfl) ?_
  refine et_putF (ci := 3) 3 d_U_init_17 ((va_ne (by omega)).trans va_eq) rfl in_U ty_U nm_U (by decide) fl_U_15 rfl rfl rfl rfl (fun _ => rfl) (fun _ => rfl) (Nat.le_of_ble_eq_true rfl) (fs' := [_, _, _, _]) rfl ?_
  generalize hhA : va_up (va_up (va_up (va_up h (k + 1) (.inl (0, 7, .inl (fun _ => 0)))) k (.inr (3, [.null, .int 0, .ref (k + 1), .null]))) (k + 1 + 1) (.inl (2, 7, .inl (fun _ => 0)))) k (.inr (3, [.null, .int 0, .ref (k + 1), .ref (k + 1 + 1)])) = hA
  have A0 : hA k = .inr (3, [.null, .int 0, .ref (k + 1), .ref (k + 2)]) := by rw [← hhA]; exact va_eq
  have A1 : hA (k + 1) = .inl (0, 7, .inl (fun _ => 0)) := by rw [← hhA, va_ne (by omega), va_ne (by omega), va_ne (by omega)]; exact va_eq
  have A2 : hA (k + 2) = .inl (2, 7, .inl (fun _ => 0)) := by rw [← hhA, va_ne (by omega)]; exact va_eq
  have AF : ∀ q, q < k + 1 → q ≠ k → hA q = h q := fun q h1 h2 => by rw [← hhA, va_ne (by omega), va_ne (by omega), va_ne (by omega), va_ne (by omega)]
  have T1 : hA 1 = .inr (4, [.ref 2, .int (nI sz), .int (nI e), .int wp]) := (AF 1 (by omega) (by omega)).trans h1
  have T2 : hA 2 = .inl (0, 60, .inl f) := (AF 2 (by omega) (by omega)).trans h2
  refine et_aload_n (i := 0) d_U_init_20 rfl rfl ?_
  refine et_aload_n (i := 1) d_U_init_21 rfl rfl ?_
  refine et_getf (ci := 4) 0 d_U_init_22 T1 rfl in_T (by decide) fl_U_19 rfl ?_
  refine et_aload_n (i := 1) d_U_init_25 rfl rfl ?_
  refine et_getf (ci := 4) 1 d_U_init_26 T1 rfl in_T (by decide) fl_U_24 rfl ?_
  refine et_invS mS_A_copyOf (As := [_, _]) rfl d_U_init_29 lk_U_28 len_A_copyOf (Nat.le_of_ble_eq_true rfl) (c_A_copyOf (d := d) T2 (by omega) (Nat.le_refl _) (by omega)) (by omega) (Nat.le_of_ble_eq_true rfl) (Nat.le_of_ble_eq_true rfl) (fun v h' n' hp => ?_) (fun x h' n' hp => by cases hp.1)
  obtain ⟨hv, hn2, row, hrow, hh2⟩ := hp
  cases hv
  subst hn2
  subst hh2
  refine et_putF (ci := 3) 0 d_U_init_32 ((va_ne (by omega)).trans A0) rfl in_U ty_U nm_U (by decide) fl_U_34 rfl rfl rfl rfl (fun _ => rfl) (fun _ => rfl) (Nat.le_of_ble_eq_true rfl) (fs' := [_, _, _, _]) rfl ?_
  refine et_aload_n (i := 0) d_U_init_35 rfl rfl ?_
  refine et_aload_n (i := 1) d_U_init_36 rfl rfl ?_
  refine et_getf (ci := 4) 2 d_U_init_37 ((va_ne (by omega)).trans ((va_ne (by omega)).trans T1)) rfl in_T (by decide) fl_U_35 rfl ?_
  refine et_putF (ci := 3) 1 d_U_init_40 va_eq rfl in_U ty_U nm_U (by decide) fl_U_38 rfl rfl rfl rfl (fun _ => rfl) (fun _ => rfl) (Nat.le_of_ble_eq_true rfl) (fs' := [_, _, _, _]) rfl ?_
  refine et_iconst (v := 0) d_U_init_43 (by decide) ?_
  refine et_istore_n (i := 2) (lv' := [_, _, _, _, _, _]) d_U_init_44 rfl (by decide) rfl rfl ?_
  refine et_iconst (v := 0) d_U_init_45 (by decide) ?_
  refine et_istore_n (i := 3) (lv' := [_, _, _, _, _, _]) d_U_init_46 rfl (by decide) rfl rfl ?_
  generalize hhB : va_up (va_up (va_up hA (k + 1 + 1 + 1) (.inl (0, sz, .inl row))) k (.inr (3, [.ref (k + 1 + 1 + 1), .int 0, .ref (k + 1), .ref (k + 2)]))) k (.inr (3, [.ref (k + 1 + 1 + 1), .int (nI e), .ref (k + 1), .ref (k + 2)])) = hB
  have z := loop e 0 row (fun _ => 0) (fun _ => 0) hB (by omega) hrow (fun q h1 h2 => ?_) ?_ ?_ ?_ ?_ (fun q hq => absurd hq (Nat.not_lt_zero q)) (fun q hq => absurd hq (Nat.not_lt_zero q))
  · rw [metB_0] at z
    exact z
  · rw [← hhB, va_ne (by omega), va_ne (by omega), va_ne (by omega)]; exact AF q h1 h2
  · rw [← hhB]; exact va_eq
  · rw [← hhB, va_ne (by omega), va_ne (by omega)]; exact va_eq
  · rw [← hhB, va_ne (by omega), va_ne (by omega), va_ne (by omega)]; exact A1
  · rw [← hhB, va_ne (by omega), va_ne (by omega), va_ne (by omega)]; exact A2
