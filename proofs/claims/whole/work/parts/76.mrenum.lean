/-! ===== the model closes and numbers anew ===== -/
theorem et_w4a {a b c o3 : Option Value} : ∀ (j : Nat) (v : Value), ([a, b, c, none] : List (Option Value))[j]? = some (some v) → ([a, b, c, o3] : List (Option Value))[j]? = some (some v)
  | 0, _, h => h
  | 1, _, h => h
  | 2, _, h => h
  | 3, _, h => by simp at h
  | j + 4, _, h => by simp at h
set_option maxHeartbeats 4000000 in
set_option maxRecDepth 100000 in
theorem c_M_renumber {sc : et_X} {h : Nat → et_MC} {d n : Nat} {th le a_ wr en al se ru un rs : Int32} {dc ds : Int64} {x : gx} {b73 : Nat → Int32} (ok : gBd 40 x.1) (nok : nOk x) (h64 : h 64 = et_Mo th le a_ wr en al se ru (nI (gN x.1)) (nI (gC x.1)) un rs dc ds) (hg : et_mg x h) (h73 : h 73 = .inl (0, 104, .inl b73)) : et_Cn sc Y_M_renumber d [.ref 64] h n 0 0 (fun r h' n' => r = .inl none ∧ n' = n ∧ (∀ k, (k < 64 ∨ (64 < k ∧ k < 69) ∨ 73 < k) → h' k = h k) ∧ ∃ q cnt, rnP (gRen x).1 q cnt ∧ cnt ≤ gN x.1 ∧ h' 64 = et_Mo th le a_ wr en al se ru (nI (gN x.1)) (nI cnt) un rs dc ds ∧ et_mg (gI (gNum (gRen x).1 q cnt)) h' ∧ ∃ b73, h' 73 = .inl (0, 104, .inl b73)) := by
  refine et_Cn.of 3 rfl rfl (by decide) mV_M_renumber.1 ?_
  obtain ⟨b68, b69, b70, b71, b72, h68, h69, h70, h71, h72, hnode, hname⟩ := id hg
  obtain ⟨ok1, ok2, ok3⟩ := ok
  have loop4 : ∀ (q : Nat → Nat) (cnt : Nat) (g69 g70 g71 g73 : Nat → Int32) (o3 : Option Value), rnP (gRen x).1 q cnt → cnt ≤ gN x.1 → (∀ k, k < gN x.1 → g69 k = eI (up q (up x.2 (gL x.1 k))) ∧ g70 k = eI (up q (up x.2 (gR x.1 k))) ∧ g71 k = nI (q (x.2 (gH x.1 k)))) → ∀ (t i : Nat) (g72 : Nat → Int32) (hh : Nat → et_MC), i + t = cnt → hh 64 = et_Mo th le a_ wr en al se ru (nI (gN x.1)) (nI cnt) un rs dc ds → hh 69 = .inl (0, 104, .inl g69) → hh 70 = .inl (0, 104, .inl g70) → hh 71 = .inl (0, 104, .inl g71) → hh 72 = .inl (0, 104, .inl g72) → hh 73 = .inl (0, 104, .inl g73) → (∀ k, (k < 64 ∨ (64 < k ∧ k < 69) ∨ 73 < k) → hh k = h k) → (∀ c, c < i → g72 c = nI c) → et_M sc Y_M_renumber d 0 0 (fun r h' n' => r = .inl none ∧ n' = n ∧ (∀ k, (k < 64 ∨ (64 < k ∧ k < 69) ∨ 73 < k) → h' k = h k) ∧ ∃ q cnt, rnP (gRen x).1 q cnt ∧ cnt ≤ gN x.1 ∧ h' 64 = et_Mo th le a_ wr en al se ru (nI (gN x.1)) (nI cnt) un rs dc ds ∧ et_mg (gI (gNum (gRen x).1 q cnt)) h' ∧ ∃ b73, h' 73 = .inl (0, 104, .inl b73)) 187 [some (.ref 64), some (.int (nI cnt)), some (.int (nI i)), o3] [] hh n 0 0 := by
    intro q cnt g69 g70 g71 g73 o3 hq hcnt hnew t
    induction t with
    | zero =>
      intro i g72 hh hi k64 k69 k70 k71 k72 k73 fr hl
      obtain rfl : i = cnt := by omega
      refine et_iload_n (i := 2) d_M_renumber_187 rfl rfl ?_
      refine et_iload_n (i := 1) d_M_renumber_188 rfl rfl ?_
      refine et_icmp_ge (tgt := 205) d_M_renumber_189 (by decide) (fun _ => ?_) (fun q => absurd (nI_le (Nat.le_refl _) (by omega)) q)
      exact et_vret d_M_renumber_205 rfl (Nat.le_refl _) (Nat.le_refl _) ⟨rfl, rfl, fr, q, i, hq, hcnt, k64, ⟨b68, g69, g70, g71, g72, (fr 68 (by omega)).trans h68, k69, k70, k71, k72, fun k hk => ⟨(hnode k hk).1, hnew k hk⟩, hl⟩, g73, k73⟩
    | succ t ih =>
      intro i g72 hh hi k64 k69 k70 k71 k72 k73 fr hl
      refine et_iload_n (i := 2) d_M_renumber_187 rfl rfl ?_
      refine et_iload_n (i := 1) d_M_renumber_188 rfl rfl ?_
      refine et_icmp_ge (tgt := 205) d_M_renumber_189 (by decide) (fun q => absurd q (nI_ge (by omega) (by omega))) (fun _ => ?_)
      refine et_aload_n (i := 0) d_M_renumber_192 rfl rfl ?_
      refine et_getf (ci := 7) 17 d_M_renumber_193 k64 rfl in_M (by decide) fl_M_35 rfl ?_
      refine et_iload_n (i := 2) d_M_renumber_196 rfl rfl ?_
      refine et_iload_n (i := 2) d_M_renumber_197 rfl rfl ?_
      refine et_iasn d_M_renumber_198 k72 (by omega) (by first | decide | omega) ?_
      refine et_iinc (lv' := [_, _, _, _]) d_M_renumber_199 rfl (v := nI (i + 1)) (nI_1 i) (by decide) rfl rfl ?_
      refine et_goto (tgt := 187) d_M_renumber_202 (by decide) ?_
      refine ih (i + 1) (upd g72 i (nI i)) _ (by omega) ((va_ne (by decide)).trans k64) ((va_ne (by decide)).trans k69) ((va_ne (by decide)).trans k70) ((va_ne (by decide)).trans k71) va_eq ((va_ne (by decide)).trans k73) (fun k hk => (va_ne (by omega)).trans (fr k hk)) (fun c hc => ?_)
      by_cases e : c = i
      · rw [e, pk_us]
      · rw [pk_un e]; exact hl c (by omega)
  have loop3 : ∀ (q : Nat → Nat) (cnt : Nat) (g73 : Nat → Int32) (o3 : Option Value), rnP (gRen x).1 (nmQ q) cnt → cnt ≤ gN x.1 → (∀ c, c < gC x.1 → g73 c = eI (q c)) → ∀ (t i : Nat) (g69 g70 g71 : Nat → Int32) (hh : Nat → et_MC), i + t = gN x.1 → hh 64 = et_Mo th le a_ wr en al se ru (nI (gN x.1)) (nI (gC x.1)) un rs dc ds → hh 69 = .inl (0, 104, .inl g69) → hh 70 = .inl (0, 104, .inl g70) → hh 71 = .inl (0, 104, .inl g71) → hh 72 = .inl (0, 104, .inl b72) → hh 73 = .inl (0, 104, .inl g73) → (∀ k, (k < 64 ∨ (64 < k ∧ k < 69) ∨ 73 < k) → hh k = h k) → (∀ k, k < gN x.1 → g69 k = (if k < i then eI (up (nmQ q) (up x.2 (gL x.1 k))) else eI (gL x.1 k)) ∧ g70 k = (if k < i then eI (up (nmQ q) (up x.2 (gR x.1 k))) else eI (gR x.1 k)) ∧ g71 k = (if k < i then nI (nmQ q (x.2 (gH x.1 k))) else nI (gH x.1 k))) → et_M sc Y_M_renumber d 0 0 (fun r h' n' => r = .inl none ∧ n' = n ∧ (∀ k, (k < 64 ∨ (64 < k ∧ k < 69) ∨ 73 < k) → h' k = h k) ∧ ∃ q cnt, rnP (gRen x).1 q cnt ∧ cnt ≤ gN x.1 ∧ h' 64 = et_Mo th le a_ wr en al se ru (nI (gN x.1)) (nI cnt) un rs dc ds ∧ et_mg (gI (gNum (gRen x).1 q cnt)) h' ∧ ∃ b73, h' 73 = .inl (0, 104, .inl b73)) 74 [some (.ref 64), some (.int (nI cnt)), some (.int (nI i)), o3] [] hh n 0 0 := by
    intro q cnt g73 o3 hq hcnt hren t
    induction t with
    | zero =>
      intro i g69 g70 g71 hh hi k64 k69 k70 k71 k72 k73 fr hl
      obtain rfl : i = gN x.1 := by omega
      refine et_iload_n (i := 2) d_M_renumber_74 rfl rfl ?_
      refine et_aload_n (i := 0) d_M_renumber_75 rfl rfl ?_
      refine et_getf (ci := 7) 11 d_M_renumber_76 k64 rfl in_M (by decide) fl_M_119 rfl ?_
      refine et_icmp_ge (tgt := 180) d_M_renumber_79 (by decide) (fun _ => ?_) (fun q => absurd (nI_le (Nat.le_refl _) (by omega)) q)
      refine et_aload_n (i := 0) d_M_renumber_180 rfl rfl ?_
      refine et_iload_n (i := 1) d_M_renumber_181 rfl rfl ?_
      refine et_putf (ci := 7) 12 d_M_renumber_182 k64 rfl in_M ty_M nm_M (by decide) fl_M_126 rfl rfl (fun _ => rfl) (fun _ => rfl) (Nat.le_of_ble_eq_true rfl) (fs' := [_, _, _, _, _, _, _, _, _, _, _, _, _, _, _, _, _, _, _, _, _, _, _, _, _, _, _, _, _, _, _, _, _]) rfl ?_
      refine et_iconst (v := 0) d_M_renumber_185 (by decide) ?_
      refine et_istore_n (i := 2) (lv' := [_, _, _, _]) d_M_renumber_186 rfl (by decide) rfl rfl ?_
      refine loop4 (nmQ q) cnt g69 g70 g71 g73 o3 hq hcnt (fun k hk => ?_) cnt 0 b72 _ (by omega) va_eq ((va_ne (by decide)).trans k69) ((va_ne (by decide)).trans k70) ((va_ne (by decide)).trans k71) ((va_ne (by decide)).trans k72) ((va_ne (by decide)).trans k73) (fun k hk => (va_ne (by omega)).trans (fr k hk)) (fun c hc => absurd hc (Nat.not_lt_zero _))
      have := hl k hk
      rw [if_pos hk, if_pos hk, if_pos hk] at this
      exact this
    | succ t ih =>
      intro i g69 g70 g71 hh hi k64 k69 k70 k71 k72 k73 fr hl
      obtain ⟨e1, e2, e3⟩ := hl i (by omega)
      rw [if_neg (Nat.lt_irrefl _)] at e1 e2 e3
      obtain ⟨o1, o2, o3'⟩ := ok3 i (by omega)
      have nh := nok _ o1
      have ren : ∀ c, c < gC x.1 → g73 (x.2 c) = nI (nmQ q (x.2 c)) := fun c hc => by rw [hren _ (nok c hc), nmQ_e]
      refine et_iload_n (i := 2) d_M_renumber_74 rfl rfl ?_
      refine et_aload_n (i := 0) d_M_renumber_75 rfl rfl ?_
      refine et_getf (ci := 7) 11 d_M_renumber_76 k64 rfl in_M (by decide) fl_M_119 rfl ?_
      refine et_icmp_ge (tgt := 180) d_M_renumber_79 (by decide) (fun q => absurd q (nI_ge (by omega) (by omega))) (fun _ => ?_)
      refine et_aload_n (i := 0) d_M_renumber_82 rfl rfl ?_
      refine et_getf (ci := 7) 16 d_M_renumber_83 k64 rfl in_M (by decide) fl_M_32 rfl ?_
      refine et_iload_n (i := 2) d_M_renumber_86 rfl rfl ?_
      refine et_aload_n (i := 0) d_M_renumber_87 rfl rfl ?_
      refine et_getf (ci := 7) 18 d_M_renumber_88 k64 rfl in_M (by decide) fl_M_38 rfl ?_
      refine et_aload_n (i := 0) d_M_renumber_91 rfl rfl ?_
      refine et_getf (ci := 7) 17 d_M_renumber_92 k64 rfl in_M (by decide) fl_M_35 rfl ?_
      refine et_aload_n (i := 0) d_M_renumber_95 rfl rfl ?_
      refine et_getf (ci := 7) 16 d_M_renumber_96 k64 rfl in_M (by decide) fl_M_32 rfl ?_
      refine et_iload_n (i := 2) d_M_renumber_99 rfl rfl ?_
      refine et_ialn d_M_renumber_100 k71 (by omega) (by first | decide | omega) ?_
      rw [e3]
      refine et_ialn d_M_renumber_101 k72 (by omega) (by first | decide | omega) ?_
      rw [hname _ o1]
      refine et_ialn d_M_renumber_102 k73 (by omega) (by first | decide | omega) ?_
      rw [ren _ o1]
      refine et_iasn d_M_renumber_103 k71 (by omega) (by first | decide | omega) ?_
      have second : ∀ (h2 : Nat → et_MC) (v69 : Int32), v69 = eI (up (nmQ q) (up x.2 (gL x.1 i))) → h2 64 = et_Mo th le a_ wr en al se ru (nI (gN x.1)) (nI (gC x.1)) un rs dc ds → h2 69 = .inl (0, 104, .inl (upd g69 i v69)) → h2 70 = .inl (0, 104, .inl g70) → h2 71 = .inl (0, 104, .inl (upd g71 i (nI (nmQ q (x.2 (gH x.1 i)))))) → h2 72 = .inl (0, 104, .inl b72) → h2 73 = .inl (0, 104, .inl g73) → (∀ k, (k < 64 ∨ (64 < k ∧ k < 69) ∨ 73 < k) → h2 k = h k) → et_M sc Y_M_renumber d 0 0 (fun r h' n' => r = .inl none ∧ n' = n ∧ (∀ k, (k < 64 ∨ (64 < k ∧ k < 69) ∨ 73 < k) → h' k = h k) ∧ ∃ q cnt, rnP (gRen x).1 q cnt ∧ cnt ≤ gN x.1 ∧ h' 64 = et_Mo th le a_ wr en al se ru (nI (gN x.1)) (nI cnt) un rs dc ds ∧ et_mg (gI (gNum (gRen x).1 q cnt)) h' ∧ ∃ b73, h' 73 = .inl (0, 104, .inl b73)) 139 [some (.ref 64), some (.int (nI cnt)), some (.int (nI i)), o3] [] h2 n 0 0 := by
        intro h2 v69 hv69 k64 k69 k70 k71 k72 k73 fr
        have fin : ∀ v70 : Int32, v70 = eI (up (nmQ q) (up x.2 (gR x.1 i))) → et_M sc Y_M_renumber d 0 0 (fun r h' n' => r = .inl none ∧ n' = n ∧ (∀ k, (k < 64 ∨ (64 < k ∧ k < 69) ∨ 73 < k) → h' k = h k) ∧ ∃ q cnt, rnP (gRen x).1 q cnt ∧ cnt ≤ gN x.1 ∧ h' 64 = et_Mo th le a_ wr en al se ru (nI (gN x.1)) (nI cnt) un rs dc ds ∧ et_mg (gI (gNum (gRen x).1 q cnt)) h' ∧ ∃ b73, h' 73 = .inl (0, 104, .inl b73)) 173 [some (.ref 64), some (.int (nI cnt)), some (.int (nI i)), o3] [.int v70, .int (nI i), .ref 70] h2 n 0 0 := by
          intro v70 hv70
          refine et_iasn d_M_renumber_173 k70 (by omega) (by first | decide | omega) ?_
          refine et_iinc (lv' := [_, _, _, _]) d_M_renumber_174 rfl (v := nI (i + 1)) (nI_1 i) (by decide) rfl rfl ?_
          refine et_goto (tgt := 74) d_M_renumber_177 (by decide) ?_
          refine ih (i + 1) (upd g69 i v69) (upd g70 i v70) (upd g71 i (nI (nmQ q (x.2 (gH x.1 i))))) _ (by omega) ((va_ne (by decide)).trans k64) ((va_ne (by decide)).trans k69) va_eq ((va_ne (by decide)).trans k71) ((va_ne (by decide)).trans k72) ((va_ne (by decide)).trans k73) (fun k hk => (va_ne (by omega)).trans (fr k hk)) (fun k hk => ?_)
          by_cases e : k = i
          · subst e
            rw [pk_us, pk_us, pk_us, if_pos (Nat.lt_succ_self _), if_pos (Nat.lt_succ_self _), if_pos (Nat.lt_succ_self _)]
            exact ⟨hv69, hv70, rfl⟩
          · rw [pk_un e, pk_un e, pk_un e]
            have := hl k hk
            by_cases z : k < i
            · rw [if_pos (by omega), if_pos (by omega), if_pos (by omega)]; rw [if_pos z, if_pos z, if_pos z] at this; exact this
            · rw [if_neg (by omega), if_neg (by omega), if_neg (by omega)]; rw [if_neg z, if_neg z, if_neg z] at this; exact this
        refine et_aload_n (i := 0) d_M_renumber_139 rfl rfl ?_
        refine et_getf (ci := 7) 15 d_M_renumber_140 k64 rfl in_M (by decide) fl_M_29 rfl ?_
        refine et_iload_n (i := 2) d_M_renumber_143 rfl rfl ?_
        refine et_aload_n (i := 0) d_M_renumber_144 rfl rfl ?_
        refine et_getf (ci := 7) 15 d_M_renumber_145 k64 rfl in_M (by decide) fl_M_29 rfl ?_
        refine et_iload_n (i := 2) d_M_renumber_148 rfl rfl ?_
        refine et_ialn d_M_renumber_149 k70 (by omega) (by first | decide | omega) ?_
        rw [e2]
        cases hR : gR x.1 i with
        | zero =>
          rw [eI_0]
          refine et_if_ge (tgt := 157) d_M_renumber_150 (by decide) (fun q => absurd q (by decide)) (fun _ => ?_)
          refine et_iconst (v := (-1)) d_M_renumber_153 (by decide) ?_
          refine et_goto (tgt := 173) d_M_renumber_154 (by decide) ?_
          exact fin _ (by rw [hR]; show _ = eI 0; rw [eI_0])
        | succ b =>
          rw [hR] at o3' e2
          rw [eI_s]
          refine et_if_ge (tgt := 157) d_M_renumber_150 (by decide) (fun _ => ?_) (fun q => absurd (nI_pos' (by omega)) q)
          refine et_aload_n (i := 0) d_M_renumber_157 rfl rfl ?_
          refine et_getf (ci := 7) 18 d_M_renumber_158 k64 rfl in_M (by decide) fl_M_38 rfl ?_
          refine et_aload_n (i := 0) d_M_renumber_161 rfl rfl ?_
          refine et_getf (ci := 7) 17 d_M_renumber_162 k64 rfl in_M (by decide) fl_M_35 rfl ?_
          refine et_aload_n (i := 0) d_M_renumber_165 rfl rfl ?_
          refine et_getf (ci := 7) 15 d_M_renumber_166 k64 rfl in_M (by decide) fl_M_29 rfl ?_
          refine et_iload_n (i := 2) d_M_renumber_169 rfl rfl ?_
          refine et_ialn d_M_renumber_170 k70 (by omega) (by first | decide | omega) ?_
          rw [e2, eI_s]
          refine et_ialn d_M_renumber_171 k72 (by omega) (by first | decide | omega) ?_
          rw [hname _ (by omega)]
          have nb := nok b (by omega)
          refine et_ialn d_M_renumber_172 k73 (by omega) (by first | decide | omega) ?_
          rw [ren _ (by omega)]
          exact fin _ (by rw [hR]; show _ = eI (nmQ q (x.2 b) + 1); rw [eI_s])
      have fin : ∀ v69 : Int32, v69 = eI (up (nmQ q) (up x.2 (gL x.1 i))) → et_M sc Y_M_renumber d 0 0 (fun r h' n' => r = .inl none ∧ n' = n ∧ (∀ k, (k < 64 ∨ (64 < k ∧ k < 69) ∨ 73 < k) → h' k = h k) ∧ ∃ q cnt, rnP (gRen x).1 q cnt ∧ cnt ≤ gN x.1 ∧ h' 64 = et_Mo th le a_ wr en al se ru (nI (gN x.1)) (nI cnt) un rs dc ds ∧ et_mg (gI (gNum (gRen x).1 q cnt)) h' ∧ ∃ b73, h' 73 = .inl (0, 104, .inl b73)) 138 [some (.ref 64), some (.int (nI cnt)), some (.int (nI i)), o3] [.int v69, .int (nI i), .ref 69] (va_up hh 71 (.inl (0, 104, .inl (upd g71 i (nI (nmQ q (x.2 (gH x.1 i)))))))) n 0 0 := by
        intro v69 hv69
        refine et_iasn d_M_renumber_138 ((va_ne (by decide)).trans k69) (by omega) (by first | decide | omega) ?_
        exact second _ v69 hv69 ((va_ne (by decide)).trans ((va_ne (by decide)).trans k64)) va_eq ((va_ne (by decide)).trans ((va_ne (by decide)).trans k70)) ((va_ne (by decide)).trans va_eq) ((va_ne (by decide)).trans ((va_ne (by decide)).trans k72)) ((va_ne (by decide)).trans ((va_ne (by decide)).trans k73)) (fun k hk => (va_ne (by omega)).trans ((va_ne (by omega)).trans (fr k hk)))
      have j64 := (va_ne (α := et_MC) (b := 71) (c := .inl (0, 104, .inl (upd g71 i (nI (nmQ q (x.2 (gH x.1 i))))))) (by decide)).trans k64
      have j69 := (va_ne (α := et_MC) (b := 71) (c := .inl (0, 104, .inl (upd g71 i (nI (nmQ q (x.2 (gH x.1 i))))))) (by decide)).trans k69
      have j72 := (va_ne (α := et_MC) (b := 71) (c := .inl (0, 104, .inl (upd g71 i (nI (nmQ q (x.2 (gH x.1 i))))))) (by decide)).trans k72
      have j73 := (va_ne (α := et_MC) (b := 71) (c := .inl (0, 104, .inl (upd g71 i (nI (nmQ q (x.2 (gH x.1 i))))))) (by decide)).trans k73
      refine et_aload_n (i := 0) d_M_renumber_104 rfl rfl ?_
      refine et_getf (ci := 7) 14 d_M_renumber_105 j64 rfl in_M (by decide) fl_M_26 rfl ?_
      refine et_iload_n (i := 2) d_M_renumber_108 rfl rfl ?_
      refine et_aload_n (i := 0) d_M_renumber_109 rfl rfl ?_
      refine et_getf (ci := 7) 14 d_M_renumber_110 j64 rfl in_M (by decide) fl_M_26 rfl ?_
      refine et_iload_n (i := 2) d_M_renumber_113 rfl rfl ?_
      refine et_ialn d_M_renumber_114 j69 (by omega) (by first | decide | omega) ?_
      rw [e1]
      cases hL : gL x.1 i with
      | zero =>
        rw [eI_0]
        refine et_if_ge (tgt := 122) d_M_renumber_115 (by decide) (fun q => absurd q (by decide)) (fun _ => ?_)
        refine et_iconst (v := (-1)) d_M_renumber_118 (by decide) ?_
        refine et_goto (tgt := 138) d_M_renumber_119 (by decide) ?_
        exact fin _ (by rw [hL]; show _ = eI 0; rw [eI_0])
      | succ b =>
        rw [hL] at o2 e1
        rw [eI_s]
        refine et_if_ge (tgt := 122) d_M_renumber_115 (by decide) (fun _ => ?_) (fun q => absurd (nI_pos' (by omega)) q)
        refine et_aload_n (i := 0) d_M_renumber_122 rfl rfl ?_
        refine et_getf (ci := 7) 18 d_M_renumber_123 j64 rfl in_M (by decide) fl_M_38 rfl ?_
        refine et_aload_n (i := 0) d_M_renumber_126 rfl rfl ?_
        refine et_getf (ci := 7) 17 d_M_renumber_127 j64 rfl in_M (by decide) fl_M_35 rfl ?_
        refine et_aload_n (i := 0) d_M_renumber_130 rfl rfl ?_
        refine et_getf (ci := 7) 14 d_M_renumber_131 j64 rfl in_M (by decide) fl_M_26 rfl ?_
        refine et_iload_n (i := 2) d_M_renumber_134 rfl rfl ?_
        refine et_ialn d_M_renumber_135 j69 (by omega) (by first | decide | omega) ?_
        rw [e1, eI_s]
        refine et_ialn d_M_renumber_136 j72 (by omega) (by first | decide | omega) ?_
        rw [hname _ (by omega)]
        have nb := nok b (by omega)
        refine et_ialn d_M_renumber_137 j73 (by omega) (by first | decide | omega) ?_
        rw [ren _ (by omega)]
        exact fin _ (by rw [hL]; show _ = eI (nmQ q (x.2 b) + 1); rw [eI_s])
  have loop2 : ∀ (t i cnt : Nat) (q : Nat → Nat) (g73 : Nat → Int32) (o3 : Option Value) (hh : Nat → et_MC), i + t = gN x.1 → rnI (gRen x).1 i cnt q → (∀ c, c < gC x.1 → g73 c = eI (q c)) → hh 73 = .inl (0, 104, .inl g73) → (∀ k, k ≠ 73 → hh k = h k) → et_M sc Y_M_renumber d 0 0 (fun r h' n' => r = .inl none ∧ n' = n ∧ (∀ k, (k < 64 ∨ (64 < k ∧ k < 69) ∨ 73 < k) → h' k = h k) ∧ ∃ q cnt, rnP (gRen x).1 q cnt ∧ cnt ≤ gN x.1 ∧ h' 64 = et_Mo th le a_ wr en al se ru (nI (gN x.1)) (nI cnt) un rs dc ds ∧ et_mg (gI (gNum (gRen x).1 q cnt)) h' ∧ ∃ b73, h' 73 = .inl (0, 104, .inl b73)) 27 [some (.ref 64), some (.int (nI cnt)), some (.int (nI i)), none] [] hh n 0 0 := by
    intro t
    induction t with
    | zero =>
      intro i cnt q g73 o3 hh hi hI hren k73 fr
      obtain rfl : i = gN x.1 := by omega
      have k64 := (fr 64 (by decide)).trans h64
      refine et_iload_n (i := 2) d_M_renumber_27 rfl rfl ?_
      refine et_aload_n (i := 0) d_M_renumber_28 rfl rfl ?_
      refine et_getf (ci := 7) 11 d_M_renumber_29 k64 rfl in_M (by decide) fl_M_119 rfl ?_
      refine et_icmp_ge (tgt := 72) d_M_renumber_32 (by decide) (fun _ => ?_) (fun q => absurd (nI_le (Nat.le_refl _) (by omega)) q)
      refine et_iconst (v := 0) d_M_renumber_72 (by decide) ?_
      refine et_istore_n (i := 2) (lv' := [_, _, _, _]) d_M_renumber_73 rfl (by decide) rfl rfl ?_
      exact loop3 q cnt g73 none (rn_end hI) hI.1 hren (gN x.1) 0 b69 b70 b71 _ (by omega) k64 ((fr 69 (by decide)).trans h69) ((fr 70 (by decide)).trans h70) ((fr 71 (by decide)).trans h71) ((fr 72 (by decide)).trans h72) k73 (fun k hk => fr k (by omega)) (fun k hk => by rw [if_neg (Nat.not_lt_zero _), if_neg (Nat.not_lt_zero _), if_neg (Nat.not_lt_zero _)]; exact (hnode k hk).2)
    | succ t ih =>
      intro i cnt q g73 o3 hh hi hI hren k73 fr
      have k64 := (fr 64 (by decide)).trans h64
      have k71 := (fr 71 (by decide)).trans h71
      have k72 := (fr 72 (by decide)).trans h72
      obtain ⟨o1, o2, o3'⟩ := ok3 i (by omega)
      have nh := nok _ o1
      have hc := hI.1
      refine et_iload_n (i := 2) d_M_renumber_27 rfl rfl ?_
      refine et_aload_n (i := 0) d_M_renumber_28 rfl rfl ?_
      refine et_getf (ci := 7) 11 d_M_renumber_29 k64 rfl in_M (by decide) fl_M_119 rfl ?_
      refine et_icmp_ge (tgt := 72) d_M_renumber_32 (by decide) (fun q => absurd q (nI_ge (by omega) (by omega))) (fun _ => ?_)
      refine et_aload_n (i := 0) d_M_renumber_35 rfl rfl ?_
      refine et_getf (ci := 7) 17 d_M_renumber_36 k64 rfl in_M (by decide) fl_M_35 rfl ?_
      refine et_aload_n (i := 0) d_M_renumber_39 rfl rfl ?_
      refine et_getf (ci := 7) 16 d_M_renumber_40 k64 rfl in_M (by decide) fl_M_32 rfl ?_
      refine et_iload_n (i := 2) d_M_renumber_43 rfl rfl ?_
      refine et_ialn d_M_renumber_44 k71 (by omega) (by first | decide | omega) ?_
      rw [(hnode i (by omega)).2.2.2]
      refine et_ialn d_M_renumber_45 k72 (by omega) (by first | decide | omega) ?_
      rw [hname _ o1]
      refine et_istore_n (i := 3) (lv' := [_, _, _, _]) d_M_renumber_46 rfl (by decide) rfl rfl ?_
      refine et_aload_n (i := 0) d_M_renumber_47 rfl rfl ?_
      refine et_getf (ci := 7) 18 d_M_renumber_48 k64 rfl in_M (by decide) fl_M_38 rfl ?_
      refine et_iload_n (i := 3) d_M_renumber_51 rfl rfl ?_
      refine et_ialn d_M_renumber_52 k73 (by omega) (by first | decide | omega) ?_
      rw [hren _ nh]
      by_cases z : q (x.2 (gH x.1 i)) = 0
      · rw [z, eI_0]
        refine et_if_ge (tgt := 66) d_M_renumber_53 (by decide) (fun q => absurd q (by decide)) (fun _ => ?_)
        refine et_aload_n (i := 0) d_M_renumber_56 rfl rfl ?_
        refine et_getf (ci := 7) 18 d_M_renumber_57 k64 rfl in_M (by decide) fl_M_38 rfl ?_
        refine et_iload_n (i := 3) d_M_renumber_60 rfl rfl ?_
        refine et_iload_n (i := 1) d_M_renumber_61 rfl rfl ?_
        refine et_iasn d_M_renumber_62 k73 (by omega) (by first | decide | omega) ?_
        refine et_iinc (lv' := [_, _, _, _]) d_M_renumber_63 rfl (v := nI (cnt + 1)) (nI_1 cnt) (by decide) rfl rfl ?_
        refine et_iinc (lv' := [_, _, _, _]) d_M_renumber_66 rfl (v := nI (i + 1)) (nI_1 i) (by decide) rfl rfl ?_
        refine et_goto (tgt := 27) d_M_renumber_69 (by decide) ?_
        refine et_weak et_w4a (ih (i + 1) (cnt + 1) (gUp q (x.2 (gH x.1 i)) (cnt + 1)) (upd g73 (x.2 (gH x.1 i)) (nI cnt)) none _ (by omega) (rn_new hI z) (fun c hc => ?_) va_eq (fun k hk => (va_ne hk).trans (fr k hk)))
        by_cases e : c = x.2 (gH x.1 i)
        · rw [e, pk_us, gUp_s, eI_s]
        · rw [pk_un e, gUp_n _ _ e]; exact hren c hc
      · obtain ⟨w, hw⟩ : ∃ w, q (x.2 (gH x.1 i)) = w + 1 := ⟨q (x.2 (gH x.1 i)) - 1, by omega⟩
        have hb := hI.2.1 (x.2 (gH x.1 i))
        rw [hw, eI_s]
        refine et_if_ge (tgt := 66) d_M_renumber_53 (by decide) (fun _ => ?_) (fun q => absurd (nI_pos' (by omega)) q)
        refine et_iinc (lv' := [_, _, _, _]) d_M_renumber_66 rfl (v := nI (i + 1)) (nI_1 i) (by decide) rfl rfl ?_
        refine et_goto (tgt := 27) d_M_renumber_69 (by decide) ?_
        exact et_weak et_w4a (ih (i + 1) cnt q g73 none _ (by omega) (rn_old hI z) hren k73 fr)
  have loop1 : ∀ (t i : Nat) (g73 : Nat → Int32) (hh : Nat → et_MC), i + t = gC x.1 → (∀ c, c < i → g73 c = -1) → hh 73 = .inl (0, 104, .inl g73) → (∀ k, k ≠ 73 → hh k = h k) → et_M sc Y_M_renumber d 0 0 (fun r h' n' => r = .inl none ∧ n' = n ∧ (∀ k, (k < 64 ∨ (64 < k ∧ k < 69) ∨ 73 < k) → h' k = h k) ∧ ∃ q cnt, rnP (gRen x).1 q cnt ∧ cnt ≤ gN x.1 ∧ h' 64 = et_Mo th le a_ wr en al se ru (nI (gN x.1)) (nI cnt) un rs dc ds ∧ et_mg (gI (gNum (gRen x).1 q cnt)) h' ∧ ∃ b73, h' 73 = .inl (0, 104, .inl b73)) 2 [some (.ref 64), some (.int (nI i)), none, none] [] hh n 0 0 := by
    intro t
    induction t with
    | zero =>
      intro i g73 hh hi hl k73 fr
      obtain rfl : i = gC x.1 := by omega
      have k64 := (fr 64 (by decide)).trans h64
      refine et_iload_n (i := 1) d_M_renumber_2 rfl rfl ?_
      refine et_aload_n (i := 0) d_M_renumber_3 rfl rfl ?_
      refine et_getf (ci := 7) 12 d_M_renumber_4 k64 rfl in_M (by decide) fl_M_126 rfl ?_
      refine et_icmp_ge (tgt := 23) d_M_renumber_7 (by decide) (fun _ => ?_) (fun q => absurd (nI_le (Nat.le_refl _) (by omega)) q)
      refine et_iconst (v := 0) d_M_renumber_23 (by decide) ?_
      refine et_istore_n (i := 1) (lv' := [_, _, _, _]) d_M_renumber_24 rfl (by decide) rfl rfl ?_
      refine et_iconst (v := 0) d_M_renumber_25 (by decide) ?_
      refine et_istore_n (i := 2) (lv' := [_, _, _, _]) d_M_renumber_26 rfl (by decide) rfl rfl ?_
      exact loop2 (gN x.1) 0 0 (fun _ => 0) g73 none _ (by omega) (rn_0 _) (fun c hc => by rw [hl c hc, eI_0]) k73 fr
    | succ t ih =>
      intro i g73 hh hi hl k73 fr
      have k64 := (fr 64 (by decide)).trans h64
      refine et_iload_n (i := 1) d_M_renumber_2 rfl rfl ?_
      refine et_aload_n (i := 0) d_M_renumber_3 rfl rfl ?_
      refine et_getf (ci := 7) 12 d_M_renumber_4 k64 rfl in_M (by decide) fl_M_126 rfl ?_
      refine et_icmp_ge (tgt := 23) d_M_renumber_7 (by decide) (fun q => absurd q (nI_ge (by omega) (by omega))) (fun _ => ?_)
      refine et_aload_n (i := 0) d_M_renumber_10 rfl rfl ?_
      refine et_getf (ci := 7) 18 d_M_renumber_11 k64 rfl in_M (by decide) fl_M_38 rfl ?_
      refine et_iload_n (i := 1) d_M_renumber_14 rfl rfl ?_
      refine et_iconst (v := (-1)) d_M_renumber_15 (by decide) ?_
      refine et_iasn d_M_renumber_16 k73 (by omega) (by first | decide | omega) ?_
      refine et_iinc (lv' := [_, _, _, _]) d_M_renumber_17 rfl (v := nI (i + 1)) (nI_1 i) (by decide) rfl rfl ?_
      refine et_goto (tgt := 2) d_M_renumber_20 (by decide) ?_
      refine ih (i + 1) (upd g73 i (-1)) _ (by omega) (fun c hc => ?_) va_eq (fun k hk => (va_ne hk).trans (fr k hk))
      by_cases e : c = i
      · rw [e, pk_us]
      · rw [pk_un e]; exact hl c (by omega)
  refine et_iconst (v := 0) d_M_renumber_0 (by decide) ?_
  refine et_istore_n (i := 1) (lv' := [_, _, _, _]) d_M_renumber_1 rfl (by decide) rfl rfl ?_
  exact loop1 (gC x.1) 0 b73 h (by omega) (fun c hc => absurd hc (Nat.not_lt_zero _)) h73 (fun _ _ => rfl)
