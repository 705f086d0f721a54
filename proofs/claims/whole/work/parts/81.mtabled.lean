theorem et_w7b {a b c d o4 o5 o6 : Option Value} : ∀ (j : Nat) (v : Value), ([a, b, c, d, none, none, none] : List (Option Value))[j]? = some (some v) → ([a, b, c, d, o4, o5, o6] : List (Option Value))[j]? = some (some v)
  | 0, _, h => h
  | 1, _, h => h
  | 2, _, h => h
  | 3, _, h => h
  | 4, _, h => by simp at h
  | 5, _, h => by simp at h
  | 6, _, h => by simp at h
  | j + 7, _, h => by simp at h
theorem et_w5a {a b c d o4 : Option Value} : ∀ (j : Nat) (v : Value), ([a, b, c, d, none] : List (Option Value))[j]? = some (some v) → ([a, b, c, d, o4] : List (Option Value))[j]? = some (some v)
  | 0, _, h => h
  | 1, _, h => h
  | 2, _, h => h
  | 3, _, h => h
  | 4, _, h => by simp at h
  | j + 5, _, h => by simp at h
set_option maxHeartbeats 4000000 in
set_option maxRecDepth 100000 in
theorem c_M_tabled {sc : et_X} {h : Nat → et_MC} {d n : Nat} {th le a_ wr en al se ru nd cs un rs : Int32} {dc ds : Int64} {g : gr} {sa va row t76 t77 t78 : Nat → Int32} {vs mm : Nat → Nat} (fr to : Nat) (G : gG 40 g) (h64 : h 64 = et_Mo th le a_ wr en al se ru nd cs un rs dc ds) (h74 : h 74 = .inl (0, 62, .inl sa)) (h75 : h 75 = .inl (0, 3, .inl va)) (h76 : h 76 = .inl (0, 128, .inl t76)) (h77 : h 77 = .inl (0, 80, .inl t77)) (h78 : h 78 = .inl (0, 4800, .inl t78)) (T : et_TB g (gN g) t76 t77 t78) (hw : wf mm row fr to) (hvs : ∀ i, fr ≤ i → i < to → et_isv (row i) → va (row i - 97).toNatClampNeg = nI (vs (row i - 97).toNatClampNeg) ∧ vs (row i - 97).toNatClampNeg < gC g) {sd szs : Nat → Int32} (side : Nat) (hsd : side < 12) (h66 : h 66 = .inl (0, 84, .inl sd)) (h67 : h 67 = .inl (0, 12, .inl szs)) (hsz : szs side = nI (to - fr)) (hto7 : to - fr ≤ 7) (hrow : ∀ j, j < to - fr → sd (7 * side + j) = row (fr + j)) : et_Cn sc Y_M_tabled (d + 2) [.ref 64, .int (nI side)] h n 0 0 (fun r h' n' => n' = n ∧ (∀ k, k ≠ 74 → h' k = h k) ∧ (∃ sa', h' 74 = .inl (0, 62, .inl sa')) ∧ ((∃ c, c < gC g ∧ gEval false 40 vs (sg row to (to - fr)) (gI g) = some ([c], gI g) ∧ r = .inl (some (.int (nI c)))) ∨ (gEval false 40 vs (sg row to (to - fr)) (gI g) = none ∧ r = .inl (some (.int (-1)))))) := by
  refine et_Cn.of 5 rfl rfl (by decide) mV_M_tabled.1 ?_
  have hfr := hw.1
  have o1 := G.1.1
  have o2 := G.1.2.1
  obtain ⟨T1, T2, T3⟩ := T
  have loop : ∀ (q i : Nat) (stk : List Nat) (sa : Nat → Int32) (hh : Nat → et_MC), i = fr + q → i ≤ to → gEval false 40 vs (sg row to (to - i)) (gI g) = some (stk, gI g) → hh 74 = .inl (0, 62, .inl sa) → (∀ j (hj : j < stk.length), sa (stk.length - 1 - j) = nI stk[j]) → (∀ k, k ≠ 74 → hh k = h k) → et_M sc Y_M_tabled (d + 2) 0 0 (fun r h' n' => n' = n ∧ (∀ k, k ≠ 74 → h' k = h k) ∧ (∃ sa', h' 74 = .inl (0, 62, .inl sa')) ∧ ((∃ c, c < gC g ∧ gEval false 40 vs (sg row to (to - fr)) (gI g) = some ([c], gI g) ∧ r = .inl (some (.int (nI c)))) ∨ (gEval false 40 vs (sg row to (to - fr)) (gI g) = none ∧ r = .inl (some (.int (-1)))))) 11 [some (.ref 64), some (.int (nI side)), some (.int (nI stk.length)), some (.int (eI (i - fr))), none, none, none] [] hh n 0 0 := by
    intro q
    induction q with
    | zero =>
      intro i stk sa hh hi hit hev g74 hst fr1
      obtain rfl : i = fr := by omega
      have g64 := (fr1 64 (by decide)).trans h64
      obtain ⟨-, -, hsl, -, hC⟩ := gEval_nw (B := 40) (g := g) (Nat.le_refl _) hw (fun i a b c => (hvs i a b c).2) G (gNw.refl _) (Nat.le_refl _) hev
      rw [show to - (to - i) = i by omega, hw.2.1] at hsl
      rw [Nat.sub_self]
      refine et_iload_n (i := 3) d_M_tabled_11 rfl rfl ?_
      refine et_if_lt (tgt := 174) d_M_tabled_12 (by decide) (fun _ => ?_) (fun q => absurd (by decide) q)
      refine et_aload_n (i := 0) d_M_tabled_174 rfl rfl ?_
      refine et_getf (ci := 7) 20 d_M_tabled_175 g64 rfl in_M (by decide) fl_M_41 rfl ?_
      refine et_iconst (v := nI 0) d_M_tabled_178 (by decide) ?_
      refine et_ialn d_M_tabled_179 g74 (by omega) (by first | decide | omega) ?_
      match stk, hsl, hev, hst, hC with
      | [c], _, hev, hst, hC =>
        have e : sa 0 = nI c := hst 0 (show 0 < [c].length from Nat.zero_lt_one)
        rw [e]
        exact et_iret d_M_tabled_180 rfl (Nat.le_refl _) (Nat.le_refl _) ⟨rfl, fr1, ⟨_, g74⟩, Or.inl ⟨c, hC c (List.mem_singleton.mpr rfl), hev, rfl⟩⟩
    | succ q ih =>
      intro i stk sa hh hi hit hev g74 hst fr1
      obtain ⟨j, rfl⟩ : ∃ j, i = j + 1 := ⟨i - 1, by omega⟩
      obtain ⟨w1, w2, w3⟩ := hw.2.2.2 j (by omega) (by omega)
      obtain ⟨-, -, n3, -, n5⟩ := gEval_nw (B := 40) (g := g) (Nat.le_refl _) hw (fun i a b c => (hvs i a b c).2) G (gNw.refl _) (by omega) hev
      rw [show to - (to - (j + 1)) = j + 1 by omega] at n3
      have hb := wf_le hw (to - (j + 1)) (by omega)
      rw [show to - (to - (j + 1)) = j + 1 by omega] at hb
      have hseg : sg row to (to - j) = row j :: sg row to (to - (j + 1)) := by
        rw [show to - j = (to - (j + 1)) + 1 by omega, sg, show to - (to - (j + 1) + 1) = j by omega]
      have hev2 : gEval false 40 vs (sg row to (to - j)) (gI g) = gPush false 40 vs (row j) stk (gI g) := by
        rw [hseg, gEval, hev]
      have g64 := (fr1 64 (by decide)).trans h64
      have g66 := (fr1 66 (by decide)).trans h66
      have g75 := (fr1 75 (by decide)).trans h75
      have g76 := (fr1 76 (by decide)).trans h76
      have g77 := (fr1 77 (by decide)).trans h77
      have g78 := (fr1 78 (by decide)).trans h78
      have top : ∀ q, q < stk.length → sa (stk.length - 1 - q) = nI (stk.getD q 0) ∧ stk.getD q 0 < gC g := by
        intro q hq
        have e : stk.getD q 0 = stk[q] := by simp [List.getD, hq]
        rw [e]
        exact ⟨hst q hq, n5 _ (List.getElem_mem hq)⟩
      rw [show j + 1 - fr = (j - fr) + 1 by omega, eI_s]
      have tail : ∀ (np : Int32) (p : Nat) (res : Option Nat), p = pw (row j) → ((p = 0 ∧ np ≤ 0) ∨ (0 < p ∧ np = nI p)) → (∀ c, res = some c → c < gC g) → gPush false 40 vs (row j) stk (gI g) = res.map (fun c => (c :: stk.drop p, gI g)) → et_M sc Y_M_tabled (d + 2) 0 0 (fun r h' n' => n' = n ∧ (∀ k, k ≠ 74 → h' k = h k) ∧ (∃ sa', h' 74 = .inl (0, 62, .inl sa')) ∧ ((∃ c, c < gC g ∧ gEval false 40 vs (sg row to (to - fr)) (gI g) = some ([c], gI g) ∧ r = .inl (some (.int (nI c)))) ∨ (gEval false 40 vs (sg row to (to - fr)) (gI g) = none ∧ r = .inl (some (.int (-1)))))) 134 [some (.ref 64), some (.int (nI side)), some (.int (nI stk.length)), some (.int (nI (j - fr))), some (.int (row j)), some (.int np), none] [.int (oI res)] hh n 0 0 := by
        intro np p res hp hnp hc31 hpush
        cases res with
        | none =>
          have hnone : gEval false 40 vs (sg row to (to - fr)) (gI g) = none := by
            have hgen : ∀ q, q ≤ j - fr → gEval false 40 vs (sg row to (to - (j - q))) (gI g) = none := by
              intro q
              induction q with
              | zero => intro _; exact hev2.trans hpush
              | succ q ihq =>
                intro hq
                rw [show to - (j - (q + 1)) = (to - (j - q)) + 1 by omega, sg, gEval, ihq (by omega)]
            have h2 := hgen (j - fr) (Nat.le_refl _)
            rwa [show j - (j - fr) = fr by omega] at h2
          show et_M sc Y_M_tabled (d + 2) 0 0 (fun r h' n' => n' = n ∧ (∀ k, k ≠ 74 → h' k = h k) ∧ (∃ sa', h' 74 = .inl (0, 62, .inl sa')) ∧ ((∃ c, c < gC g ∧ gEval false 40 vs (sg row to (to - fr)) (gI g) = some ([c], gI g) ∧ r = .inl (some (.int (nI c)))) ∨ (gEval false 40 vs (sg row to (to - fr)) (gI g) = none ∧ r = .inl (some (.int (-1)))))) 134 [some (.ref 64), some (.int (nI side)), some (.int (nI stk.length)), some (.int (nI (j - fr))), some (.int (row j)), some (.int np), none] [.int (-1)] hh n 0 0
          refine et_istore (lv' := [_, _, _, _, _, _, _]) d_M_tabled_134 (by decide) rfl rfl ?_
          refine et_iload d_M_tabled_136 rfl ?_
          refine et_if_ge (tgt := 143) d_M_tabled_138 (by decide) (fun q => absurd q (by decide)) (fun _ => ?_)
          refine et_iconst (v := (-1)) d_M_tabled_141 (by decide) ?_
          exact et_iret d_M_tabled_142 rfl (Nat.le_refl _) (Nat.le_refl _) ⟨rfl, fr1, ⟨_, g74⟩, Or.inr ⟨hnone, rfl⟩⟩
        | some c =>
          have c40 := hc31 c rfl
          have hl2 : (c :: stk.drop p).length = stk.length - p + 1 := by rw [List.length_cons, List.length_drop]
          show et_M sc Y_M_tabled (d + 2) 0 0 (fun r h' n' => n' = n ∧ (∀ k, k ≠ 74 → h' k = h k) ∧ (∃ sa', h' 74 = .inl (0, 62, .inl sa')) ∧ ((∃ c, c < gC g ∧ gEval false 40 vs (sg row to (to - fr)) (gI g) = some ([c], gI g) ∧ r = .inl (some (.int (nI c)))) ∨ (gEval false 40 vs (sg row to (to - fr)) (gI g) = none ∧ r = .inl (some (.int (-1)))))) 134 [some (.ref 64), some (.int (nI side)), some (.int (nI stk.length)), some (.int (nI (j - fr))), some (.int (row j)), some (.int np), none] [.int (nI c)] hh n 0 0
          refine et_istore (lv' := [_, _, _, _, _, _, _]) d_M_tabled_134 (by decide) rfl rfl ?_
          refine et_iload d_M_tabled_136 rfl ?_
          refine et_if_ge (tgt := 143) d_M_tabled_138 (by decide) (fun _ => ?_) (fun q => absurd (nI_pos' (by omega)) q)
          refine et_iload d_M_tabled_143 rfl ?_
          have fin : ∀ v : Int32, v = nI (stk.length - p) → et_M sc Y_M_tabled (d + 2) 0 0 (fun r h' n' => n' = n ∧ (∀ k, k ≠ 74 → h' k = h k) ∧ (∃ sa', h' 74 = .inl (0, 62, .inl sa')) ∧ ((∃ c, c < gC g ∧ gEval false 40 vs (sg row to (to - fr)) (gI g) = some ([c], gI g) ∧ r = .inl (some (.int (nI c)))) ∨ (gEval false 40 vs (sg row to (to - fr)) (gI g) = none ∧ r = .inl (some (.int (-1)))))) 156 [some (.ref 64), some (.int (nI side)), some (.int (nI stk.length)), some (.int (nI (j - fr))), some (.int (row j)), some (.int np), some (.int (nI c))] [.int v] hh n 0 0 := by
            intro v hv
            subst hv
            refine et_istore_n (i := 2) (lv' := [_, _, _, _, _, _, _]) d_M_tabled_156 rfl (by decide) rfl rfl ?_
            refine et_aload_n (i := 0) d_M_tabled_157 rfl rfl ?_
            refine et_getf (ci := 7) 20 d_M_tabled_158 g64 rfl in_M (by decide) fl_M_41 rfl ?_
            refine et_iload_n (i := 2) d_M_tabled_161 rfl rfl ?_
            refine et_iload d_M_tabled_162 rfl ?_
            refine et_iasn d_M_tabled_164 g74 (by omega) (by first | decide | omega) ?_
            refine et_iinc (lv' := [_, _, _, _, _, _, _]) d_M_tabled_165 rfl (v := nI (stk.length - p + 1)) (nI_1 _) (by decide) rfl rfl ?_
            refine et_iinc (lv' := [_, _, _, _, _, _, _]) d_M_tabled_168 rfl (v := eI (j - fr)) (et_m1 _) (by decide) rfl rfl ?_
            refine et_goto (tgt := 11) d_M_tabled_171 (by decide) ?_
            rw [← hl2]
            refine et_weak et_w7b (ih j (c :: stk.drop p) (upd sa (stk.length - p) (nI c)) _ (by omega) (by omega) (hev2.trans hpush) va_eq (fun q hq => ?_) (fun k hk => (va_ne hk).trans (fr1 k hk)))
            rw [hl2] at hq ⊢
            cases q with
            | zero =>
              rw [show stk.length - p + 1 - 1 - 0 = stk.length - p by omega, pk_us]
              rfl
            | succ q =>
              rw [pk_un (by omega)]
              have hq2 : p + q < stk.length := by omega
              have := hst (p + q) hq2
              rw [show stk.length - p + 1 - 1 - (q + 1) = stk.length - 1 - (p + q) by omega, this]
              congr 1
              simp [List.getElem_cons_succ, List.getElem_drop]
          rcases hnp with ⟨z, hz⟩ | ⟨z, hz⟩
          · refine et_if_le (tgt := 155) d_M_tabled_145 (by decide) (fun _ => ?_) (fun q => absurd hz q)
            refine et_iload_n (i := 2) d_M_tabled_155 rfl rfl ?_
            exact fin _ (by rw [z, Nat.sub_zero])
          · subst hz
            refine et_if_le (tgt := 155) d_M_tabled_145 (by decide) (fun q => absurd q (nI_nle (by omega) (by omega))) (fun _ => ?_)
            refine et_iload_n (i := 2) d_M_tabled_148 rfl rfl ?_
            refine et_iload d_M_tabled_149 rfl ?_
            refine et_isub d_M_tabled_151 ?_
            rw [nI_sub (by omega)]
            refine et_goto (tgt := 156) d_M_tabled_152 (by decide) ?_
            exact fin _ rfl
      refine et_iload_n (i := 3) d_M_tabled_11 rfl rfl ?_
      refine et_if_lt (tgt := 174) d_M_tabled_12 (by decide) (fun q => absurd q (nI_n0 (by omega))) (fun _ => ?_)
      refine et_aload_n (i := 0) d_M_tabled_15 rfl rfl ?_
      refine et_getf (ci := 7) 9 d_M_tabled_16 g64 rfl in_M (by decide) fl_M_17 rfl ?_
      refine et_bipush (v := nI 7) d_M_tabled_19 (by decide) ?_
      refine et_iload_n (i := 1) d_M_tabled_21 rfl rfl ?_
      refine et_imul d_M_tabled_22 ?_
      rw [nI_mul]
      refine et_iload_n (i := 3) d_M_tabled_23 rfl rfl ?_
      refine et_iadd d_M_tabled_24 ?_
      rw [nI_add]
      refine et_ialn d_M_tabled_25 g66 (by omega) (by first | decide | omega) ?_
      rw [hrow (j - fr) (by omega), show fr + (j - fr) = j by omega]
      refine et_istore (lv' := [_, _, _, _, _, _, _]) d_M_tabled_26 (by decide) rfl rfl ?_
      refine et_iload d_M_tabled_28 rfl ?_
      refine et_invS mS_M_takes (As := [_]) rfl d_M_tabled_30 lk_M_98 len_M_takes (Nat.le_of_ble_eq_true rfl) (c_M_takes (d := d) (row j)) (Nat.le_refl _) (Nat.le_of_ble_eq_true rfl) (Nat.le_of_ble_eq_true rfl) (fun v h' n' hp => ?_) (fun x h' n' hp => by cases hp.1)
      obtain ⟨hv, hn2, hh2⟩ := hp
      cases hv
      subst hh2
      replace hn2 := hn2.symm
      subst hn2
      by_cases hv1 : et_isv (row j)
      · have hp0 : pw (row j) = 0 := pw_0 (by rw [et_pp, if_pos hv1])
        obtain ⟨i1, i2, -⟩ := et_isv_in hv1
        obtain ⟨v1, v2⟩ := hvs j (by omega) (by omega) hv1
        rw [et_isv_pt hv1]
        refine et_istore (lv' := [_, _, _, _, _, _, _]) d_M_tabled_33 (by decide) rfl rfl ?_
        refine et_iload d_M_tabled_35 rfl ?_
        refine et_if_ge (tgt := 53) d_M_tabled_37 (by decide) (fun q => absurd q (by decide)) (fun _ => ?_)
        refine et_aload_n (i := 0) d_M_tabled_40 rfl rfl ?_
        refine et_getf (ci := 7) 22 d_M_tabled_41 g64 rfl in_M (by decide) fl_M_44 rfl ?_
        refine et_iload d_M_tabled_44 rfl ?_
        refine et_bipush (v := 97) d_M_tabled_46 (by decide) ?_
        refine et_isub d_M_tabled_48 ?_
        rw [i2]
        refine et_ialn d_M_tabled_49 g75 (by omega) (by first | decide | omega) ?_
        rw [v1]
        refine et_goto (tgt := 134) d_M_tabled_50 (by decide) ?_
        exact tail _ 0 (some (vs (row j - 97).toNatClampNeg)) hp0.symm (Or.inl ⟨rfl, by decide⟩) (fun c hc => by cases hc; exact v2) (by rw [gPush_v hv1]; rfl)
      · have push : ∀ p, p = pw (row j) → gPush false 40 vs (row j) stk (gI g) = (gFind g (row j) (pL (row j) stk) (pR (row j) stk)).map (fun c => (c :: stk.drop p, gI g)) := by
          intro p hp
          rw [gPush_h hv1 w1, gHome_look2, Option.map_map, hp]
          rfl
        have lt : ∀ l r c, gFind g (row j) l r = some c → c < gC g := fun l r c hc => by
          obtain ⟨k, k1, -, k2⟩ := gFindN_lt hc
          rw [← k2]
          exact (G.1.2.2 k k1).1
        rcases pw_pt hv1 w1 with ⟨e0, hp0⟩ | ⟨e0, hp0⟩ | ⟨e0, hp0⟩
        · rw [e0]
          refine et_istore (lv' := [_, _, _, _, _, _, _]) d_M_tabled_33 (by decide) rfl rfl ?_
          refine et_iload d_M_tabled_35 rfl ?_
          refine et_if_ge (tgt := 53) d_M_tabled_37 (by decide) (fun _ => ?_) (fun q => absurd (by decide) q)
          refine et_iload d_M_tabled_53 rfl ?_
          refine et_if_ne (tgt := 68) d_M_tabled_55 (by decide) (fun q => absurd rfl q) (fun _ => ?_)
          obtain ⟨p1, p2, p3⟩ := pt_nn (s := row j) (by rw [e0]; decide)
          refine et_aload_n (i := 0) d_M_tabled_58 rfl rfl ?_
          refine et_getf (ci := 7) 23 d_M_tabled_59 g64 rfl in_M (by decide) fl_M_47 rfl ?_
          refine et_iload d_M_tabled_62 rfl ?_
          refine et_iald d_M_tabled_64 g76 (by rw [p3]; exact vp_in_nI (by omega) (by decide)) ?_
          rw [T1 _ e0]
          refine et_goto (tgt := 134) d_M_tabled_65 (by decide) ?_
          exact tail _ 0 (gFind g (row j) 0 0) hp0.symm (Or.inl ⟨rfl, by decide⟩) (lt 0 0) (by have := push 0 hp0.symm; rw [pL, pR, if_pos hp0, if_neg (by omega)] at this; exact this)
        · obtain ⟨t1, t2⟩ := top 0 (by omega)
          have kk := kd_1le e0
          rw [e0]
          refine et_istore (lv' := [_, _, _, _, _, _, _]) d_M_tabled_33 (by decide) rfl rfl ?_
          refine et_iload d_M_tabled_35 rfl ?_
          refine et_if_ge (tgt := 53) d_M_tabled_37 (by decide) (fun _ => ?_) (fun q => absurd (by decide) q)
          refine et_iload d_M_tabled_53 rfl ?_
          refine et_if_ne (tgt := 68) d_M_tabled_55 (by decide) (fun _ => ?_) (fun q => absurd q (by decide))
          refine et_iload d_M_tabled_68 rfl ?_
          refine et_iconst (v := 1) d_M_tabled_70 (by decide) ?_
          refine et_icmp_ne (tgt := 99) d_M_tabled_71 (by decide) (fun q => absurd rfl q) (fun _ => ?_)
          refine et_aload_n (i := 0) d_M_tabled_74 rfl rfl ?_
          refine et_getf (ci := 7) 24 d_M_tabled_75 g64 rfl in_M (by decide) fl_M_50 rfl ?_
          refine et_bipush (v := nI 40) d_M_tabled_78 (by decide) ?_
          refine et_iload d_M_tabled_80 rfl ?_
          refine et_invS mS_M_kindOf (As := [_]) rfl d_M_tabled_82 lk_M_170 len_M_kindOf (Nat.le_of_ble_eq_true rfl) (c_M_kindOf (d := d + 1) (row j)) (Nat.le_refl _) (Nat.le_of_ble_eq_true rfl) (Nat.le_of_ble_eq_true rfl) (fun v h' n' hp => ?_) (fun x h' n' hp => by cases hp.1)
          obtain ⟨hv, hn2, hh2⟩ := hp
          cases hv
          subst hh2
          replace hn2 := hn2.symm
          subst hn2
          refine et_imul d_M_tabled_85 ?_
          rw [nI_mul]
          refine et_aload_n (i := 0) d_M_tabled_86 rfl rfl ?_
          refine et_getf (ci := 7) 20 d_M_tabled_87 g64 rfl in_M (by decide) fl_M_41 rfl ?_
          refine et_iload_n (i := 2) d_M_tabled_90 rfl rfl ?_
          refine et_iconst (v := 1) d_M_tabled_91 (by decide) ?_
          refine et_isub d_M_tabled_92 ?_
          rw [show (1 : Int32) = nI 1 from rfl, nI_sub (show 1 ≤ stk.length by omega)]
          refine et_ialn d_M_tabled_93 g74 (by omega) (by first | decide | omega) ?_
          rw [show stk.length - 1 = stk.length - 1 - 0 from rfl, t1]
          refine et_iadd d_M_tabled_94 ?_
          rw [nI_add]
          refine et_ialn d_M_tabled_95 g77 (by omega) (by first | decide | omega) ?_
          rw [T2 _ _ e0 (by omega)]
          refine et_goto (tgt := 134) d_M_tabled_96 (by decide) ?_
          exact tail _ 1 (gFind g (row j) (stk.getD 0 0 + 1) 0) hp0.symm (Or.inr ⟨by decide, rfl⟩) (lt _ _) (by have := push 1 hp0.symm; rw [pL, pR, if_neg (by omega), if_neg (by omega)] at this; exact this)
        · obtain ⟨t1, t2⟩ := top 0 (by omega)
          obtain ⟨u1, u2⟩ := top 1 (by omega)
          have kk := kd_le (row j)
          rw [e0]
          refine et_istore (lv' := [_, _, _, _, _, _, _]) d_M_tabled_33 (by decide) rfl rfl ?_
          refine et_iload d_M_tabled_35 rfl ?_
          refine et_if_ge (tgt := 53) d_M_tabled_37 (by decide) (fun _ => ?_) (fun q => absurd (by decide) q)
          refine et_iload d_M_tabled_53 rfl ?_
          refine et_if_ne (tgt := 68) d_M_tabled_55 (by decide) (fun _ => ?_) (fun q => absurd q (by decide))
          refine et_iload d_M_tabled_68 rfl ?_
          refine et_iconst (v := 1) d_M_tabled_70 (by decide) ?_
          refine et_icmp_ne (tgt := 99) d_M_tabled_71 (by decide) (fun _ => ?_) (fun q => absurd q (by decide))
          refine et_aload_n (i := 0) d_M_tabled_99 rfl rfl ?_
          refine et_getf (ci := 7) 25 d_M_tabled_100 g64 rfl in_M (by decide) fl_M_53 rfl ?_
          refine et_sipush (v := nI 1600) d_M_tabled_103 (by decide) ?_
          refine et_iload d_M_tabled_106 rfl ?_
          refine et_invS mS_M_kindOf (As := [_]) rfl d_M_tabled_108 lk_M_170 len_M_kindOf (Nat.le_of_ble_eq_true rfl) (c_M_kindOf (d := d + 1) (row j)) (Nat.le_refl _) (Nat.le_of_ble_eq_true rfl) (Nat.le_of_ble_eq_true rfl) (fun v h' n' hp => ?_) (fun x h' n' hp => by cases hp.1)
          obtain ⟨hv, hn2, hh2⟩ := hp
          cases hv
          subst hh2
          replace hn2 := hn2.symm
          subst hn2
          refine et_imul d_M_tabled_111 ?_
          rw [nI_mul]
          refine et_bipush (v := nI 40) d_M_tabled_112 (by decide) ?_
          refine et_aload_n (i := 0) d_M_tabled_114 rfl rfl ?_
          refine et_getf (ci := 7) 20 d_M_tabled_115 g64 rfl in_M (by decide) fl_M_41 rfl ?_
          refine et_iload_n (i := 2) d_M_tabled_118 rfl rfl ?_
          refine et_iconst (v := 1) d_M_tabled_119 (by decide) ?_
          refine et_isub d_M_tabled_120 ?_
          rw [show (1 : Int32) = nI 1 from rfl, nI_sub (show 1 ≤ stk.length by omega)]
          refine et_ialn d_M_tabled_121 g74 (by omega) (by first | decide | omega) ?_
          rw [show stk.length - 1 = stk.length - 1 - 0 from rfl, t1]
          refine et_imul d_M_tabled_122 ?_
          rw [nI_mul]
          refine et_iadd d_M_tabled_123 ?_
          rw [nI_add]
          refine et_aload_n (i := 0) d_M_tabled_124 rfl rfl ?_
          refine et_getf (ci := 7) 20 d_M_tabled_125 g64 rfl in_M (by decide) fl_M_41 rfl ?_
          refine et_iload_n (i := 2) d_M_tabled_128 rfl rfl ?_
          refine et_iconst (v := 2) d_M_tabled_129 (by decide) ?_
          refine et_isub d_M_tabled_130 ?_
          rw [show (2 : Int32) = nI 2 from rfl, nI_sub (show 2 ≤ stk.length by omega)]
          refine et_ialn d_M_tabled_131 g74 (by omega) (by first | decide | omega) ?_
          rw [show stk.length - 2 = stk.length - 1 - 1 from rfl, u1]
          refine et_iadd d_M_tabled_132 ?_
          rw [nI_add]
          refine et_ialn d_M_tabled_133 g78 (by omega) (by first | decide | omega) ?_
          rw [T3 _ _ _ e0 (by omega) (by omega)]
          exact tail _ 2 (gFind g (row j) (stk.getD 0 0 + 1) (stk.getD 1 0 + 1)) hp0.symm (Or.inr ⟨by decide, rfl⟩) (lt _ _) (by have := push 2 hp0.symm; rw [pL, pR, if_neg (by omega), if_pos hp0] at this; exact this)
  refine et_iconst (v := 0) d_M_tabled_0 (by decide) ?_
  refine et_istore_n (i := 2) (lv' := [_, _, _, _, _, _, _]) d_M_tabled_1 rfl (by decide) rfl rfl ?_
  refine et_aload_n (i := 0) d_M_tabled_2 rfl rfl ?_
  refine et_getf (ci := 7) 10 d_M_tabled_3 h64 rfl in_M (by decide) fl_M_20 rfl ?_
  refine et_iload_n (i := 1) d_M_tabled_6 rfl rfl ?_
  refine et_ialn d_M_tabled_7 h67 (by omega) (by first | decide | omega) ?_
  rw [hsz]
  refine et_iconst (v := 1) d_M_tabled_8 (by decide) ?_
  refine et_isub d_M_tabled_9 ?_
  refine et_istore_n (i := 3) (lv' := [_, _, _, _, _, _, _]) d_M_tabled_10 rfl (by decide) rfl rfl ?_
  exact loop (to - fr) to [] sa h (by omega) (Nat.le_refl _) (by rw [Nat.sub_self]; rfl) h74 (fun j hj => absurd hj (Nat.not_lt_zero _)) (fun _ _ => rfl)
set_option maxHeartbeats 4000000 in
set_option maxRecDepth 100000 in
theorem c_M_variablesOf {sc : et_X} {h : Nat → et_MC} {d n : Nat} {th le a_ wr en al se ru nd cs un rs : Int32} {dc ds : Int64} {row : Nat → Int32} {e : Nat} {sd szs : Nat → Int32} (side : Nat) (hsd : side < 12) (h64 : h 64 = et_Mo th le a_ wr en al se ru nd cs un rs dc ds) (h66 : h 66 = .inl (0, 84, .inl sd)) (h67 : h 67 = .inl (0, 12, .inl szs)) (hsz : szs side = nI e) (he7 : e ≤ 7) (hrow : ∀ j, j < e → sd (7 * side + j) = row j) : et_Cn sc Y_M_variablesOf (d + 1) [.ref 64, .int (nI side)] h n 0 0 (fun r h' n' => r = .inl (some (.int (metB row e))) ∧ n' = n ∧ h' = h) := by
  refine et_Cn.of 3 rfl rfl (by decide) mV_M_variablesOf.1 ?_
  have loop : ∀ (t i : Nat), i + t = e → et_M sc Y_M_variablesOf (d + 1) 0 0 (fun r h' n' => r = .inl (some (.int (metB row e))) ∧ n' = n ∧ h' = h) 4 [some (.ref 64), some (.int (nI side)), some (.int (metB row i)), some (.int (nI i)), none] [] h n 0 0 := by
    intro t
    induction t with
    | zero =>
      intro i hi
      obtain rfl : i = e := by omega
      refine et_iload_n (i := 3) d_M_variablesOf_4 rfl rfl ?_
      refine et_aload_n (i := 0) d_M_variablesOf_5 rfl rfl ?_
      refine et_getf (ci := 7) 10 d_M_variablesOf_6 h64 rfl in_M (by decide) fl_M_20 rfl ?_
      refine et_iload_n (i := 1) d_M_variablesOf_9 rfl rfl ?_
      refine et_ialn d_M_variablesOf_10 h67 (by omega) (by first | decide | omega) ?_
      rw [hsz]
      refine et_icmp_ge (tgt := 59) d_M_variablesOf_11 (by decide) (fun _ => ?_) (fun q => absurd (nI_le (Nat.le_refl _) (by omega)) q)
      refine et_iload_n (i := 2) d_M_variablesOf_59 rfl rfl ?_
      exact et_iret d_M_variablesOf_60 rfl (Nat.le_refl _) (Nat.le_refl _) ⟨rfl, rfl, rfl⟩
    | succ t ih =>
      intro i hi
      refine et_iload_n (i := 3) d_M_variablesOf_4 rfl rfl ?_
      refine et_aload_n (i := 0) d_M_variablesOf_5 rfl rfl ?_
      refine et_getf (ci := 7) 10 d_M_variablesOf_6 h64 rfl in_M (by decide) fl_M_20 rfl ?_
      refine et_iload_n (i := 1) d_M_variablesOf_9 rfl rfl ?_
      refine et_ialn d_M_variablesOf_10 h67 (by omega) (by first | decide | omega) ?_
      rw [hsz]
      refine et_icmp_ge (tgt := 59) d_M_variablesOf_11 (by decide) (fun q => absurd q (nI_ge (by omega) (by omega))) (fun _ => ?_)
      refine et_aload_n (i := 0) d_M_variablesOf_14 rfl rfl ?_
      refine et_getf (ci := 7) 9 d_M_variablesOf_15 h64 rfl in_M (by decide) fl_M_17 rfl ?_
      refine et_bipush (v := nI 7) d_M_variablesOf_18 (by decide) ?_
      refine et_iload_n (i := 1) d_M_variablesOf_20 rfl rfl ?_
      refine et_imul d_M_variablesOf_21 ?_
      rw [nI_mul]
      refine et_iload_n (i := 3) d_M_variablesOf_22 rfl rfl ?_
      refine et_iadd d_M_variablesOf_23 ?_
      rw [nI_add]
      refine et_ialn d_M_variablesOf_24 h66 (by omega) (by first | decide | omega) ?_
      rw [hrow i (by omega)]
      refine et_istore (lv' := [_, _, _, _, _]) d_M_variablesOf_25 (by decide) rfl rfl ?_
      refine et_iload d_M_variablesOf_27 rfl ?_
      refine et_bipush (v := 97) d_M_variablesOf_29 (by decide) ?_
      refine et_bipush (v := 99) d_M_variablesOf_31 (by decide) ?_
      refine et_invS mS_M_within (As := [_, _, _]) rfl d_M_variablesOf_33 lk_M_75 len_M_within (Nat.le_of_ble_eq_true rfl) (c_M_within (d := d) (row i) 97 99) (Nat.le_refl _) (Nat.le_of_ble_eq_true rfl) (Nat.le_of_ble_eq_true rfl) (fun v h' n' hp => ?_) (fun x h' n' hp => by cases hp.1)
      obtain ⟨hv, hn2, hh2⟩ := hp
      cases hv
      subst hh2
      replace hn2 := hn2.symm
      subst hn2
      by_cases hv : et_isv (row i)
      · rw [if_pos (et_wn.mpr hv)]
        refine et_if_eq (tgt := 51) d_M_variablesOf_36 (by decide) (fun q => absurd q (by decide)) (fun _ => ?_)
        refine et_iload_n (i := 2) d_M_variablesOf_39 rfl rfl ?_
        refine et_iconst (v := 1) d_M_variablesOf_40 (by decide) ?_
        refine et_iload d_M_variablesOf_41 rfl ?_
        refine et_bipush (v := 97) d_M_variablesOf_43 (by decide) ?_
        refine et_isub d_M_variablesOf_45 ?_
        refine et_ishl d_M_variablesOf_46 ?_
        refine et_ior d_M_variablesOf_47 ?_
        rw [met_or hv]
        refine et_goto (tgt := 52) d_M_variablesOf_48 (by decide) ?_
        refine et_istore_n (i := 2) (lv' := [_, _, _, _, _]) d_M_variablesOf_52 rfl (by decide) rfl rfl ?_
        refine et_iinc (lv' := [_, _, _, _, _]) d_M_variablesOf_53 rfl (v := nI (i + 1)) (nI_1 i) (by decide) rfl rfl ?_
        refine et_goto (tgt := 4) d_M_variablesOf_56 (by decide) ?_
        exact et_weak et_w5a (ih (i + 1) (by omega))
      · rw [if_neg (fun y => hv (et_wn.mp y))]
        refine et_if_eq (tgt := 51) d_M_variablesOf_36 (by decide) (fun _ => ?_) (fun q => absurd rfl q)
        refine et_iload_n (i := 2) d_M_variablesOf_51 rfl rfl ?_
        rw [← met_no hv]
        refine et_istore_n (i := 2) (lv' := [_, _, _, _, _]) d_M_variablesOf_52 rfl (by decide) rfl rfl ?_
        refine et_iinc (lv' := [_, _, _, _, _]) d_M_variablesOf_53 rfl (v := nI (i + 1)) (nI_1 i) (by decide) rfl rfl ?_
        refine et_goto (tgt := 4) d_M_variablesOf_56 (by decide) ?_
        exact et_weak et_w5a (ih (i + 1) (by omega))
  refine et_iconst (v := 0) d_M_variablesOf_0 (by decide) ?_
  refine et_istore_n (i := 2) (lv' := [_, _, _, _, _]) d_M_variablesOf_1 rfl (by decide) rfl rfl ?_
  refine et_iconst (v := 0) d_M_variablesOf_2 (by decide) ?_
  refine et_istore_n (i := 3) (lv' := [_, _, _, _, _]) d_M_variablesOf_3 rfl (by decide) rfl rfl ?_
  have := loop e 0 (by omega)
  rw [metB_0, nI_0] at this
  exact this
