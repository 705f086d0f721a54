theorem gPush_v {gw : Bool} {lim : Nat} {vs : Nat → Nat} {c : Int32} {stk : List Nat} {x : gx} (hv : et_isv c) : gPush gw lim vs c stk x = some (vs (c - 97).toNatClampNeg :: stk, x) := by
  rw [gPush, if_pos hv]
theorem gPush_2 {gw : Bool} {lim : Nat} {vs : Nat → Nat} {c : Int32} {stk : List Nat} {x : gx} (hv : ¬ et_isv c) (hp : et_pt c = 2) : gPush gw lim vs c stk x = (gHome gw lim x c (stk.getD 0 0 + 1) (stk.getD 1 0 + 1)).map (fun q => (q.1 :: stk.drop 2, q.2)) := by
  rw [gPush, if_neg hv, if_pos hp]
theorem gPush_1 {gw : Bool} {lim : Nat} {vs : Nat → Nat} {c : Int32} {stk : List Nat} {x : gx} (hv : ¬ et_isv c) (hp : et_pt c = 1) : gPush gw lim vs c stk x = (gHome gw lim x c (stk.getD 0 0 + 1) 0).map (fun q => (q.1 :: stk.drop 1, q.2)) := by
  rw [gPush, if_neg hv, if_neg (by rw [hp]; decide), if_pos hp]
theorem gPush_0 {gw : Bool} {lim : Nat} {vs : Nat → Nat} {c : Int32} {stk : List Nat} {x : gx} (hv : ¬ et_isv c) (hp : et_pt c = 0) : gPush gw lim vs c stk x = (gHome gw lim x c 0 0).map (fun q => (q.1 :: stk.drop 0, q.2)) := by
  rw [gPush, if_neg hv, if_neg (by rw [hp]; decide), if_neg (by rw [hp]; decide)]
  rfl
theorem et_w11 {a b c d e f g i o8 o9 o10 : Option Value} : ∀ (j : Nat) (v : Value), ([a, b, c, d, e, f, g, i, none, none, none] : List (Option Value))[j]? = some (some v) → ([a, b, c, d, e, f, g, i, o8, o9, o10] : List (Option Value))[j]? = some (some v)
  | 0, _, h => h
  | 1, _, h => h
  | 2, _, h => h
  | 3, _, h => h
  | 4, _, h => h
  | 5, _, h => h
  | 6, _, h => h
  | 7, _, h => h
  | 8, _, h => by simp at h
  | 9, _, h => by simp at h
  | 10, _, h => by simp at h
  | j + 11, _, h => by simp at h
theorem et_gh.same {x : gx} {h h' : Nat → et_MC} (g : et_gh x h) (e : ∀ k, 3 ≤ k → k ≤ 9 → h' k = h k) : et_gh x h' := by
  obtain ⟨a4, a5, a6, a7, a8, a9, h3, h4, h5, h6, h7, h8, h9, r⟩ := g
  exact ⟨a4, a5, a6, a7, a8, a9, (e 3 (by decide) (by decide)).trans h3, (e 4 (by decide) (by decide)).trans h4, (e 5 (by decide) (by decide)).trans h5, (e 6 (by decide) (by decide)).trans h6, (e 7 (by decide) (by decide)).trans h7, (e 8 (by decide) (by decide)).trans h8, (e 9 (by decide) (by decide)).trans h9, r⟩
theorem et_gh_12 {x : gx} {h : Nat → et_MC} {c : et_MC} (g : et_gh x h) : et_gh x (va_up h 12 c) := g.same (fun k h1 h2 => by simp [va_up, show k ≠ 12 by omega])
/-- the cells beside graph and stack -/
def et_g12 (h h' : Nat → et_MC) : Prop := ∀ k, (k < 3 ∨ 9 < k) → k ≠ 12 → h' k = h k
set_option maxHeartbeats 4000000 in
set_option maxRecDepth 100000 in
theorem c_K_classOf {sc : et_X} {h : Nat → et_MC} {d n : Nat} {x : gx} {va st0 row : Nat → Int32} {vs mm : Nat → Nat} {kr len : Nat} (gw : Bool) (fr to : Nat) (ok : gOk 40 x.1) (hg : et_gh x h) (h10 : h 10 = .inr (5, [.ref 11, .ref 3, .ref 12])) (h11 : h 11 = .inl (0, 3, .inl va)) (h12 : h 12 = .inl (0, 60, .inl st0)) (hkr : h kr = .inl (0, len, .inl row)) (kr1 : kr < 3 ∨ 12 < kr) (hlen : to ≤ len) (hl60 : len ≤ 60) (hw : wf mm row fr to) (hvs : ∀ i, fr ≤ i → i < to → et_isv (row i) → va (row i - 97).toNatClampNeg = nI (vs (row i - 97).toNatClampNeg) ∧ vs (row i - 97).toNatClampNeg < gC x.1) : et_Cn sc Y_K_classOf (d + 2) [.ref 10, .ref kr, .int (nI fr), .int (nI to), .int (bI gw)] h n 0 0 (fun r h' n' => n' = n ∧ et_g12 h h' ∧ (∃ st', h' 12 = .inl (0, 60, .inl st')) ∧ ((∃ c x', gEval gw 40 vs (sg row to (to - fr)) x = some ([c], x') ∧ r = .inl (some (.int (nI c))) ∧ gOk 40 x'.1 ∧ c < gC x'.1 ∧ gLe x.1 x'.1 ∧ et_gh x' h') ∨ (gEval gw 40 vs (sg row to (to - fr)) x = none ∧ r = .inl (some (.int (-1))) ∧ ∃ x', (∃ k stk, gEval gw 40 vs (sg row to k) x = some (stk, x')) ∧ gOk 40 x'.1 ∧ gLe x.1 x'.1 ∧ et_gh x' h'))) := by
  refine et_Cn.of 6 rfl rfl (by decide) mV_K_classOf.1 ?_
  have loop : ∀ (t i : Nat) (stk : List Nat) (x1 : gx) (sa : Nat → Int32) (hh : Nat → et_MC) (hm : Int32) (o8 o9 o10 : Option Value), i = fr + t → i ≤ to → gEval gw 40 vs (sg row to (to - i)) x = some (stk, x1) → stk.length = mm i → gOk 40 x1.1 → gLe x.1 x1.1 → et_gh x1 hh → (∀ c ∈ stk, c < gC x1.1) → hh 12 = .inl (0, 60, .inl sa) → (∀ j (hj : j < stk.length), sa (stk.length - 1 - j) = nI stk[j]) → et_g12 h hh → (∀ c s', stk = c :: s' → hm = nI c) → et_M sc Y_K_classOf (d + 2) 0 0 (fun r h' n' => n' = n ∧ et_g12 h h' ∧ (∃ st', h' 12 = .inl (0, 60, .inl st')) ∧ ((∃ c x', gEval gw 40 vs (sg row to (to - fr)) x = some ([c], x') ∧ r = .inl (some (.int (nI c))) ∧ gOk 40 x'.1 ∧ c < gC x'.1 ∧ gLe x.1 x'.1 ∧ et_gh x' h') ∨ (gEval gw 40 vs (sg row to (to - fr)) x = none ∧ r = .inl (some (.int (-1))) ∧ ∃ x', (∃ k stk, gEval gw 40 vs (sg row to k) x = some (stk, x')) ∧ gOk 40 x'.1 ∧ gLe x.1 x'.1 ∧ et_gh x' h'))) 11 [some (.ref 10), some (.ref kr), some (.int (nI fr)), some (.int (nI to)), some (.int (bI gw)), some (.int (nI stk.length)), some (.int (hm)), some (.int (eI i)), none, none, none] [] hh n 0 0 := by
    intro t
    induction t with
    | zero =>
      intro i stk x1 sa hh hm o8 o9 o10 hi hit hev hsl ok1 le1 g1 hC1 s12 hst fr1 hhm
      obtain rfl : i = fr := by omega
      refine et_iload d_K_classOf_11 rfl ?_
      refine et_iload_n (i := 2) d_K_classOf_13 rfl rfl ?_
      refine et_icmp_lt (tgt := 144) d_K_classOf_14 (by decide) (fun _ => ?_) (fun q => absurd (eI_lt (by omega)) q)
      refine et_iload d_K_classOf_144 rfl ?_
      rw [hw.2.1] at hsl
      match stk, hsl, hev, hC1, hhm with
      | [c], _, hev, hC1, hhm =>
        have e := hhm c [] rfl
        subst e
        exact et_iret d_K_classOf_146 rfl (Nat.le_refl _) (Nat.le_refl _) ⟨rfl, fr1, ⟨_, s12⟩, Or.inl ⟨c, x1, hev, rfl, ok1, hC1 c (List.mem_cons_self), le1, g1⟩⟩
    | succ t ih =>
      intro i stk x1 sa hh hm o8 o9 o10 hi hit hev hsl ok1 le1 g1 hC1 s12 hst fr1 hhm
      obtain ⟨j, rfl⟩ : ∃ j, i = j + 1 := ⟨i - 1, by omega⟩
      obtain ⟨w1, w2, w3⟩ := hw.2.2.2 j (by omega) (by omega)
      have g10 : hh 10 = .inr (5, [.ref 11, .ref 3, .ref 12]) := (fr1 10 (by omega) (by omega)).trans h10
      have g11 : hh 11 = .inl (0, 3, .inl va) := (fr1 11 (by omega) (by omega)).trans h11
      have gkr : hh kr = .inl (0, len, .inl row) := (fr1 kr (by omega) (by omega)).trans hkr
      have hsl60 : stk.length ≤ 59 := by
        have := wf_le hw (to - (j + 1)) (by omega)
        rw [show to - (to - (j + 1)) = j + 1 by omega] at this
        omega
      have hseg : sg row to (to - j) = row j :: sg row to (to - (j + 1)) := by
        rw [show to - j = (to - (j + 1)) + 1 by omega, sg, show to - (to - (j + 1) + 1) = j by omega]
      have hev2 : ∀ q, gPush gw 40 vs (row j) stk x1 = q → gEval gw 40 vs (sg row to (to - j)) x = q := fun q hq => by
        rw [hseg, gEval, hev]
        exact hq
      rw [eI_s]
      have fail : ∀ (p : Int32) (o9 o10 : Option Value), gPush gw 40 vs (row j) stk x1 = none → et_M sc Y_K_classOf (d + 2) 0 0 (fun r h' n' => n' = n ∧ et_g12 h h' ∧ (∃ st', h' 12 = .inl (0, 60, .inl st')) ∧ ((∃ c x', gEval gw 40 vs (sg row to (to - fr)) x = some ([c], x') ∧ r = .inl (some (.int (nI c))) ∧ gOk 40 x'.1 ∧ c < gC x'.1 ∧ gLe x.1 x'.1 ∧ et_gh x' h') ∨ (gEval gw 40 vs (sg row to (to - fr)) x = none ∧ r = .inl (some (.int (-1))) ∧ ∃ x', (∃ k stk, gEval gw 40 vs (sg row to k) x = some (stk, x')) ∧ gOk 40 x'.1 ∧ gLe x.1 x'.1 ∧ et_gh x' h'))) 109 [some (.ref 10), some (.ref kr), some (.int (nI fr)), some (.int (nI to)), some (.int (bI gw)), some (.int (nI stk.length)), some (.int (hm)), some (.int (nI j)), some (.int p), o9, o10] [.int (-1)] hh n 0 0 := by
        intro p o9 o10 hpush
        have hnone : ∀ t', fr + t' = j → gEval gw 40 vs (sg row to (to - fr)) x = none := by
          intro t' ht'
          have hgen : ∀ q, q ≤ t' → gEval gw 40 vs (sg row to (to - (j - q))) x = none := by
            intro q
            induction q with
            | zero => intro _; exact hev2 _ hpush
            | succ q ihq =>
              intro hq
              rw [show to - (j - (q + 1)) = (to - (j - q)) + 1 by omega, sg, gEval, ihq (by omega)]
          have h2 := hgen t' (Nat.le_refl _)
          rwa [show j - t' = fr by omega] at h2
        refine et_istore (lv' := [_, _, _, _, _, _, _, _, _, _, _]) d_K_classOf_109 (by decide) rfl rfl ?_
        refine et_iload d_K_classOf_111 rfl ?_
        refine et_iconst (v := (-1)) d_K_classOf_113 (by decide) ?_
        refine et_icmp_ne (tgt := 119) d_K_classOf_114 (by decide) (fun q => absurd rfl q) (fun _ => ?_)
        refine et_iconst (v := (-1)) d_K_classOf_117 (by decide) ?_
        exact et_iret d_K_classOf_118 rfl (Nat.le_refl _) (Nat.le_refl _) ⟨rfl, fr1, ⟨_, s12⟩, Or.inr ⟨hnone (j - fr) (by omega), rfl, x1, ⟨_, _, hev⟩, ok1, le1, g1⟩⟩
      have tail : ∀ (p c : Nat) (x2 : gx) (h2 : Nat → et_MC) (o9 o10 : Option Value), p = pw (row j) → p ≤ stk.length → gPush gw 40 vs (row j) stk x1 = some (c :: stk.drop p, x2) → gOk 40 x2.1 → gLe x1.1 x2.1 → c < gC x2.1 → et_gh x2 h2 → et_g9 hh h2 → et_M sc Y_K_classOf (d + 2) 0 0 (fun r h' n' => n' = n ∧ et_g12 h h' ∧ (∃ st', h' 12 = .inl (0, 60, .inl st')) ∧ ((∃ c x', gEval gw 40 vs (sg row to (to - fr)) x = some ([c], x') ∧ r = .inl (some (.int (nI c))) ∧ gOk 40 x'.1 ∧ c < gC x'.1 ∧ gLe x.1 x'.1 ∧ et_gh x' h') ∨ (gEval gw 40 vs (sg row to (to - fr)) x = none ∧ r = .inl (some (.int (-1))) ∧ ∃ x', (∃ k stk, gEval gw 40 vs (sg row to k) x = some (stk, x')) ∧ gOk 40 x'.1 ∧ gLe x.1 x'.1 ∧ et_gh x' h'))) 109 [some (.ref 10), some (.ref kr), some (.int (nI fr)), some (.int (nI to)), some (.int (bI gw)), some (.int (nI stk.length)), some (.int (hm)), some (.int (nI j)), some (.int (nI p)), o9, o10] [.int (nI c)] h2 n 0 0 := by
        intro p c x2 h2 o9 o10 hp hps hpush ok2 le2 hc2 g2 fr2
        have c40 : c < 2 ^ 31 := by have := ok2.1; have := ok2.2.1; omega
        have f10 : h2 10 = .inr (5, [.ref 11, .ref 3, .ref 12]) := (fr2 10 (by omega)).trans g10
        have f12 : h2 12 = .inl (0, 60, .inl sa) := (fr2 12 (by omega)).trans s12
        refine et_istore (lv' := [_, _, _, _, _, _, _, _, _, _, _]) d_K_classOf_109 (by decide) rfl rfl ?_
        refine et_iload d_K_classOf_111 rfl ?_
        refine et_iconst (v := (-1)) d_K_classOf_113 (by decide) ?_
        refine et_icmp_ne (tgt := 119) d_K_classOf_114 (by decide) (fun _ => ?_) (fun q => absurd q (eI_ns c40))
        refine et_iload d_K_classOf_119 rfl ?_
        refine et_iload d_K_classOf_121 rfl ?_
        refine et_isub d_K_classOf_123 ?_
        rw [nI_sub hps]
        refine et_istore (lv' := [_, _, _, _, _, _, _, _, _, _, _]) d_K_classOf_124 (by decide) rfl rfl ?_
        refine et_aload_n (i := 0) d_K_classOf_126 rfl rfl ?_
        refine et_getf (ci := 5) 2 d_K_classOf_127 f10 rfl in_K (by decide) fl_K_15 rfl ?_
        refine et_iload d_K_classOf_130 rfl ?_
        refine et_iload d_K_classOf_132 rfl ?_
        refine et_iasn d_K_classOf_134 f12 (by omega) (by first | decide | omega) ?_
        refine et_iinc (lv' := [_, _, _, _, _, _, _, _, _, _, _]) d_K_classOf_135 rfl (v := nI (stk.length - p + 1)) (nI_1 _) (by decide) rfl rfl ?_
        refine et_iinc (lv' := [_, _, _, _, _, _, _, _, _, _, _]) d_K_classOf_138 rfl (v := eI j) (et_m1 _) (by decide) rfl rfl ?_
        refine et_goto (tgt := 11) d_K_classOf_141 (by decide) ?_
        have hl2 : (c :: stk.drop p).length = stk.length - p + 1 := by rw [List.length_cons, List.length_drop]
        rw [← hl2]
        refine et_weak et_w11 (ih j (c :: stk.drop p) x2 (upd sa (stk.length - p) (nI c)) _ _ none none none (by omega) (by omega) (hev2 _ hpush) (by rw [hl2]; omega) ok2 (le1.trans le2) ?_ ?_ rfl ?_ ?_ (fun c' s' e => by cases e; rfl))
        · exact et_gh_12 g2
        · intro c' hc'
          rcases List.mem_cons.mp hc' with e | e
          · rw [e]; exact hc2
          · exact Nat.lt_of_lt_of_le (hC1 c' (List.mem_of_mem_drop e)) le2.2.1
        · intro q hq
          rw [hl2] at hq ⊢
          cases q with
          | zero =>
            rw [show stk.length - p + 1 - 1 - 0 = stk.length - p by omega, pk_us]
            rfl
          | succ q =>
            rw [pk_un (by omega)]
            have hq2 : p + q < stk.length := by omega
            have := hst (p + q) hq2
            rw [show stk.length - p + 1 - 1 - (q + 1) = stk.length - 1 - (p + q) by omega, this]
            congr 1
            simp [List.getElem_cons_succ, List.getElem_drop]
        · intro k hk hk12
          have e1 : va_up h2 12 (.inl (0, 60, .inl (upd sa (stk.length - p) (nI c)))) k = h2 k := by simp [va_up, hk12]
          rw [e1, fr2 k hk, fr1 k hk hk12]
      refine et_iload d_K_classOf_11 rfl ?_
      refine et_iload_n (i := 2) d_K_classOf_13 rfl rfl ?_
      refine et_icmp_lt (tgt := 144) d_K_classOf_14 (by decide) (fun q => absurd q (nI_nlt (by omega) (by omega))) (fun _ => ?_)
      refine et_aload_n (i := 1) d_K_classOf_17 rfl rfl ?_
      refine et_iload d_K_classOf_18 rfl ?_
      refine et_ialn d_K_classOf_20 gkr (by omega) (by first | decide | omega) ?_
      refine et_invS mS_S_partsInPattern (As := [_]) rfl d_K_classOf_21 lk_K_22 len_S_partsInPattern (Nat.le_of_ble_eq_true rfl) (c_S_partsInPattern (d := d) (row j)) (Nat.le_refl _) (Nat.le_of_ble_eq_true rfl) (Nat.le_of_ble_eq_true rfl) (fun v h' n' hp => ?_) (fun x h' n' hp => by cases hp.1)
      obtain ⟨hv, hn2, hh2⟩ := hp
      cases hv
      subst hh2
      replace hn2 := hn2.symm
      subst hn2
      refine et_istore (lv' := [_, _, _, _, _, _, _, _, _, _, _]) d_K_classOf_24 (by decide) rfl rfl ?_
      refine et_iload d_K_classOf_26 rfl ?_
      have top : ∀ q, q < stk.length → sa (stk.length - 1 - q) = eI (stk.getD q 0 + 1) ∧ stk.getD q 0 + 1 ≤ gC x1.1 := by
        intro q hq
        have e : stk.getD q 0 = stk[q] := by simp [List.getD, hq]
        rw [e, eI_s]
        exact ⟨hst q hq, hC1 _ (List.getElem_mem hq)⟩
      rcases et_pp_cases (row j) with e0 | e0 | e0 | e0
      · exact absurd e0 w1
      · rw [e0]
        have hp0 := pw_0 e0
        refine et_if_le (tgt := 43) d_K_classOf_28 (by decide) (fun _ => ?_) (fun q => absurd (by decide) q)
        refine et_iconst (v := (-1)) d_K_classOf_43 (by decide) ?_
        refine et_istore (lv' := [_, _, _, _, _, _, _, _, _, _, _]) d_K_classOf_44 (by decide) rfl rfl ?_
        refine et_iload d_K_classOf_46 rfl ?_
        refine et_iconst (v := 1) d_K_classOf_48 (by decide) ?_
        refine et_icmp_le (tgt := 64) d_K_classOf_49 (by decide) (fun _ => ?_) (fun q => absurd (by decide) q)
        refine et_iconst (v := (-1)) d_K_classOf_64 (by decide) ?_
        refine et_istore (lv' := [_, _, _, _, _, _, _, _, _, _, _]) d_K_classOf_65 (by decide) rfl rfl ?_
        by_cases hv1 : et_isv (row j)
        · refine et_aload_n (i := 1) d_K_classOf_67 rfl rfl ?_
          refine et_iload d_K_classOf_68 rfl ?_
          refine et_ialn d_K_classOf_70 gkr (by omega) (by first | decide | omega) ?_
          refine et_invS mS_S_isVariable (As := [_]) rfl d_K_classOf_71 lk_K_28 len_S_isVariable (Nat.le_of_ble_eq_true rfl) (c_S_isVariable (d := d + 1) (row j)) (Nat.le_refl _) (Nat.le_of_ble_eq_true rfl) (Nat.le_of_ble_eq_true rfl) (fun v h' n' hp => ?_) (fun x h' n' hp => by cases hp.1)
          obtain ⟨hv, hn2, hh2⟩ := hp
          cases hv
          subst hh2
          replace hn2 := hn2.symm
          subst hn2
          rw [if_pos hv1]
          refine et_if_eq (tgt := 92) d_K_classOf_74 (by decide) (fun q => absurd q (by decide)) (fun _ => ?_)
          obtain ⟨i1, i2, -⟩ := et_isv_in hv1
          refine et_aload_n (i := 0) d_K_classOf_77 rfl rfl ?_
          refine et_getf (ci := 5) 0 d_K_classOf_78 g10 rfl in_K (by decide) fl_K_9 rfl ?_
          refine et_aload_n (i := 1) d_K_classOf_81 rfl rfl ?_
          refine et_iload d_K_classOf_82 rfl ?_
          refine et_ialn d_K_classOf_84 gkr (by omega) (by first | decide | omega) ?_
          refine et_bipush (v := 97) d_K_classOf_85 (by decide) ?_
          refine et_isub d_K_classOf_87 ?_
          rw [i2]
          refine et_ialn d_K_classOf_88 g11 (by omega) (by first | decide | omega) ?_
          refine et_goto (tgt := 109) d_K_classOf_89 (by decide) ?_
          obtain ⟨v1, v2⟩ := hvs j (by omega) (by omega) hv1
          rw [v1]
          exact tail 0 _ x1 _ _ _ hp0.symm (by omega) (by simp [gPush, hv1]) ok1 (gLe.refl _) (Nat.lt_of_lt_of_le v2 le1.2.1) g1 (fun _ _ => rfl)
        · have hpt : et_pt (row j) = 0 := by rw [← e0, et_pp, if_neg hv1]
          refine et_aload_n (i := 1) d_K_classOf_67 rfl rfl ?_
          refine et_iload d_K_classOf_68 rfl ?_
          refine et_ialn d_K_classOf_70 gkr (by omega) (by first | decide | omega) ?_
          refine et_invS mS_S_isVariable (As := [_]) rfl d_K_classOf_71 lk_K_28 len_S_isVariable (Nat.le_of_ble_eq_true rfl) (c_S_isVariable (d := d + 1) (row j)) (Nat.le_refl _) (Nat.le_of_ble_eq_true rfl) (Nat.le_of_ble_eq_true rfl) (fun v h' n' hp => ?_) (fun x h' n' hp => by cases hp.1)
          obtain ⟨hv, hn2, hh2⟩ := hp
          cases hv
          subst hh2
          replace hn2 := hn2.symm
          subst hn2
          rw [if_neg hv1]
          refine et_if_eq (tgt := 92) d_K_classOf_74 (by decide) (fun _ => ?_) (fun q => absurd (by decide) q)
          refine et_aload_n (i := 0) d_K_classOf_92 rfl rfl ?_
          refine et_getf (ci := 5) 1 d_K_classOf_93 g10 rfl in_K (by decide) fl_K_18 rfl ?_
          refine et_aload_n (i := 1) d_K_classOf_96 rfl rfl ?_
          refine et_iload d_K_classOf_97 rfl ?_
          refine et_ialn d_K_classOf_99 gkr (by omega) (by first | decide | omega) ?_
          refine et_iload d_K_classOf_100 rfl ?_
          refine et_iload d_K_classOf_102 rfl ?_
          refine et_iload d_K_classOf_104 rfl ?_
          rw [show (-1 : Int32) = eI 0 from eI_0.symm]
          obtain ⟨a4, a5, a6, a7, a8, a9, k3, kk⟩ := id g1
          refine et_invV mV_G_homeOf (As := [_, _, _, _]) rfl d_K_classOf_106 lk_K_32 len_G_homeOf k3 rfl (Nat.le_of_ble_eq_true rfl) (c_G_homeOf (d := d) gw (row j) 0 0 ok1 (Nat.zero_le _) (Nat.zero_le _) g1) (Nat.le_refl _) (Nat.le_of_ble_eq_true rfl) (Nat.le_of_ble_eq_true rfl) (fun v h' n' hp => ?_) (fun y h' n' hp => by rcases hp.2.2 with ⟨c, x', -, e, -⟩ | ⟨-, e, -⟩ <;> cases e)
          obtain ⟨hn2, fr2, hres⟩ := hp
          replace hn2 := hn2.symm
          subst hn2
          rcases hres with ⟨c, x2, e, hv, g2⟩ | ⟨e, hv, hh2⟩
          · cases hv
            obtain ⟨ok2, hc2, le2, -⟩ := gHome_ok (B := 40) ok1 (Nat.zero_le _) (Nat.zero_le _) (Or.inr (Nat.le_refl _)) e
            exact tail 0 c x2 _ _ _ hp0.symm (by omega) (by rw [gPush_0 hv1 hpt, e]; rfl) ok2 le2 hc2 g2 fr2
          · cases hv
            subst hh2
            exact fail _ _ _ (by rw [gPush_0 hv1 hpt, e]; rfl)
      · rw [e0]
        have hp0 := pw_1 e0
        have hv1 : ¬ et_isv (row j) := fun z => by rw [et_pp, if_pos z] at e0; exact absurd e0 (by decide)
        have hpt : et_pt (row j) = 1 := by rw [← e0, et_pp, if_neg hv1]
        obtain ⟨t1, t2⟩ := top 0 (by omega)
        refine et_if_le (tgt := 43) d_K_classOf_28 (by decide) (fun q => absurd q (by decide)) (fun _ => ?_)
        refine et_aload_n (i := 0) d_K_classOf_31 rfl rfl ?_
        refine et_getf (ci := 5) 2 d_K_classOf_32 g10 rfl in_K (by decide) fl_K_15 rfl ?_
        refine et_iload d_K_classOf_35 rfl ?_
        refine et_iconst (v := 1) d_K_classOf_37 (by decide) ?_
        refine et_isub d_K_classOf_38 ?_
        rw [show (1 : Int32) = nI 1 from rfl, nI_sub (show 1 ≤ stk.length by omega)]
        refine et_ialn d_K_classOf_39 s12 (by omega) (by first | decide | omega) ?_
        rw [show stk.length - 1 = stk.length - 1 - 0 from rfl, t1]
        refine et_goto (tgt := 44) d_K_classOf_40 (by decide) ?_
        refine et_istore (lv' := [_, _, _, _, _, _, _, _, _, _, _]) d_K_classOf_44 (by decide) rfl rfl ?_
        refine et_iload d_K_classOf_46 rfl ?_
        refine et_iconst (v := 1) d_K_classOf_48 (by decide) ?_
        refine et_icmp_le (tgt := 64) d_K_classOf_49 (by decide) (fun _ => ?_) (fun q => absurd (by decide) q)
        refine et_iconst (v := (-1)) d_K_classOf_64 (by decide) ?_
        refine et_istore (lv' := [_, _, _, _, _, _, _, _, _, _, _]) d_K_classOf_65 (by decide) rfl rfl ?_
        refine et_aload_n (i := 1) d_K_classOf_67 rfl rfl ?_
        refine et_iload d_K_classOf_68 rfl ?_
        refine et_ialn d_K_classOf_70 gkr (by omega) (by first | decide | omega) ?_
        refine et_invS mS_S_isVariable (As := [_]) rfl d_K_classOf_71 lk_K_28 len_S_isVariable (Nat.le_of_ble_eq_true rfl) (c_S_isVariable (d := d + 1) (row j)) (Nat.le_refl _) (Nat.le_of_ble_eq_true rfl) (Nat.le_of_ble_eq_true rfl) (fun v h' n' hp => ?_) (fun x h' n' hp => by cases hp.1)
        obtain ⟨hv, hn2, hh2⟩ := hp
        cases hv
        subst hh2
        replace hn2 := hn2.symm
        subst hn2
        rw [if_neg hv1]
        refine et_if_eq (tgt := 92) d_K_classOf_74 (by decide) (fun _ => ?_) (fun q => absurd (by decide) q)
        refine et_aload_n (i := 0) d_K_classOf_92 rfl rfl ?_
        refine et_getf (ci := 5) 1 d_K_classOf_93 g10 rfl in_K (by decide) fl_K_18 rfl ?_
        refine et_aload_n (i := 1) d_K_classOf_96 rfl rfl ?_
        refine et_iload d_K_classOf_97 rfl ?_
        refine et_ialn d_K_classOf_99 gkr (by omega) (by first | decide | omega) ?_
        refine et_iload d_K_classOf_100 rfl ?_
        refine et_iload d_K_classOf_102 rfl ?_
        refine et_iload d_K_classOf_104 rfl ?_
        rw [show (-1 : Int32) = eI 0 from eI_0.symm]
        obtain ⟨a4, a5, a6, a7, a8, a9, k3, kk⟩ := id g1
        refine et_invV mV_G_homeOf (As := [_, _, _, _]) rfl d_K_classOf_106 lk_K_32 len_G_homeOf k3 rfl (Nat.le_of_ble_eq_true rfl) (c_G_homeOf (d := d) gw (row j) (stk.getD 0 0 + 1) 0 ok1 t2 (Nat.zero_le _) g1) (Nat.le_refl _) (Nat.le_of_ble_eq_true rfl) (Nat.le_of_ble_eq_true rfl) (fun v h' n' hp => ?_) (fun y h' n' hp => by rcases hp.2.2 with ⟨c, x', -, e, -⟩ | ⟨-, e, -⟩ <;> cases e)
        obtain ⟨hn2, fr2, hres⟩ := hp
        replace hn2 := hn2.symm
        subst hn2
        rcases hres with ⟨c, x2, e, hv, g2⟩ | ⟨e, hv, hh2⟩
        · cases hv
          obtain ⟨ok2, hc2, le2, -⟩ := gHome_ok (B := 40) ok1 t2 (Nat.zero_le _) (Or.inr (Nat.le_refl _)) e
          exact tail 1 c x2 _ _ _ hp0.symm (by omega) (by rw [gPush_1 hv1 hpt, e]; rfl) ok2 le2 hc2 g2 fr2
        · cases hv
          subst hh2
          exact fail _ _ _ (by rw [gPush_1 hv1 hpt, e]; rfl)
      · rw [e0]
        have hp0 := pw_2 e0
        have hv1 : ¬ et_isv (row j) := fun z => by rw [et_pp, if_pos z] at e0; exact absurd e0 (by decide)
        have hpt : et_pt (row j) = 2 := by rw [← e0, et_pp, if_neg hv1]
        obtain ⟨t1, t2⟩ := top 0 (by omega)
        obtain ⟨u1, u2⟩ := top 1 (by omega)
        refine et_if_le (tgt := 43) d_K_classOf_28 (by decide) (fun q => absurd q (by decide)) (fun _ => ?_)
        refine et_aload_n (i := 0) d_K_classOf_31 rfl rfl ?_
        refine et_getf (ci := 5) 2 d_K_classOf_32 g10 rfl in_K (by decide) fl_K_15 rfl ?_
        refine et_iload d_K_classOf_35 rfl ?_
        refine et_iconst (v := 1) d_K_classOf_37 (by decide) ?_
        refine et_isub d_K_classOf_38 ?_
        rw [show (1 : Int32) = nI 1 from rfl, nI_sub (show 1 ≤ stk.length by omega)]
        refine et_ialn d_K_classOf_39 s12 (by omega) (by first | decide | omega) ?_
        rw [show stk.length - 1 = stk.length - 1 - 0 from rfl, t1]
        refine et_goto (tgt := 44) d_K_classOf_40 (by decide) ?_
        refine et_istore (lv' := [_, _, _, _, _, _, _, _, _, _, _]) d_K_classOf_44 (by decide) rfl rfl ?_
        refine et_iload d_K_classOf_46 rfl ?_
        refine et_iconst (v := 1) d_K_classOf_48 (by decide) ?_
        refine et_icmp_le (tgt := 64) d_K_classOf_49 (by decide) (fun q => absurd q (by decide)) (fun _ => ?_)
        refine et_aload_n (i := 0) d_K_classOf_52 rfl rfl ?_
        refine et_getf (ci := 5) 2 d_K_classOf_53 g10 rfl in_K (by decide) fl_K_15 rfl ?_
        refine et_iload d_K_classOf_56 rfl ?_
        refine et_iconst (v := 2) d_K_classOf_58 (by decide) ?_
        refine et_isub d_K_classOf_59 ?_
        rw [show (2 : Int32) = nI 2 from rfl, nI_sub (show 2 ≤ stk.length by omega)]
        refine et_ialn d_K_classOf_60 s12 (by omega) (by first | decide | omega) ?_
        rw [show stk.length - 2 = stk.length - 1 - 1 from rfl, u1]
        refine et_goto (tgt := 65) d_K_classOf_61 (by decide) ?_
        refine et_istore (lv' := [_, _, _, _, _, _, _, _, _, _, _]) d_K_classOf_65 (by decide) rfl rfl ?_
        refine et_aload_n (i := 1) d_K_classOf_67 rfl rfl ?_
        refine et_iload d_K_classOf_68 rfl ?_
        refine et_ialn d_K_classOf_70 gkr (by omega) (by first | decide | omega) ?_
        refine et_invS mS_S_isVariable (As := [_]) rfl d_K_classOf_71 lk_K_28 len_S_isVariable (Nat.le_of_ble_eq_true rfl) (c_S_isVariable (d := d + 1) (row j)) (Nat.le_refl _) (Nat.le_of_ble_eq_true rfl) (Nat.le_of_ble_eq_true rfl) (fun v h' n' hp => ?_) (fun x h' n' hp => by cases hp.1)
        obtain ⟨hv, hn2, hh2⟩ := hp
        cases hv
        subst hh2
        replace hn2 := hn2.symm
        subst hn2
        rw [if_neg hv1]
        refine et_if_eq (tgt := 92) d_K_classOf_74 (by decide) (fun _ => ?_) (fun q => absurd (by decide) q)
        refine et_aload_n (i := 0) d_K_classOf_92 rfl rfl ?_
        refine et_getf (ci := 5) 1 d_K_classOf_93 g10 rfl in_K (by decide) fl_K_18 rfl ?_
        refine et_aload_n (i := 1) d_K_classOf_96 rfl rfl ?_
        refine et_iload d_K_classOf_97 rfl ?_
        refine et_ialn d_K_classOf_99 gkr (by omega) (by first | decide | omega) ?_
        refine et_iload d_K_classOf_100 rfl ?_
        refine et_iload d_K_classOf_102 rfl ?_
        refine et_iload d_K_classOf_104 rfl ?_
        obtain ⟨a4, a5, a6, a7, a8, a9, k3, kk⟩ := id g1
        refine et_invV mV_G_homeOf (As := [_, _, _, _]) rfl d_K_classOf_106 lk_K_32 len_G_homeOf k3 rfl (Nat.le_of_ble_eq_true rfl) (c_G_homeOf (d := d) gw (row j) (stk.getD 0 0 + 1) (stk.getD 1 0 + 1) ok1 t2 u2 g1) (Nat.le_refl _) (Nat.le_of_ble_eq_true rfl) (Nat.le_of_ble_eq_true rfl) (fun v h' n' hp => ?_) (fun y h' n' hp => by rcases hp.2.2 with ⟨c, x', -, e, -⟩ | ⟨-, e, -⟩ <;> cases e)
        obtain ⟨hn2, fr2, hres⟩ := hp
        replace hn2 := hn2.symm
        subst hn2
        rcases hres with ⟨c, x2, e, hv, g2⟩ | ⟨e, hv, hh2⟩
        · cases hv
          obtain ⟨ok2, hc2, le2, -⟩ := gHome_ok (B := 40) ok1 t2 u2 (Or.inr (Nat.le_refl _)) e
          exact tail 2 c x2 _ _ _ hp0.symm (by omega) (by rw [gPush_2 hv1 hpt, e]; rfl) ok2 le2 hc2 g2 fr2
        · cases hv
          subst hh2
          exact fail _ _ _ (by rw [gPush_2 hv1 hpt, e]; rfl)
  refine et_iconst (v := 0) d_K_classOf_0 (by decide) ?_
  refine et_istore (lv' := [_, _, _, _, _, _, _, _, _, _, _]) d_K_classOf_1 (by decide) rfl rfl ?_
  refine et_iconst (v := (-1)) d_K_classOf_3 (by decide) ?_
  refine et_istore (lv' := [_, _, _, _, _, _, _, _, _, _, _]) d_K_classOf_4 (by decide) rfl rfl ?_
  refine et_iload_n (i := 3) d_K_classOf_6 rfl rfl ?_
  refine et_iconst (v := 1) d_K_classOf_7 (by decide) ?_
  refine et_isub d_K_classOf_8 ?_
  rw [show nI to - 1 = eI to from rfl]
  refine et_istore (lv' := [_, _, _, _, _, _, _, _, _, _, _]) d_K_classOf_9 (by decide) rfl rfl ?_
  refine loop (to - fr) to [] x st0 h _ none none none (by have := hw.1; omega) (Nat.le_refl _) (by rw [Nat.sub_self]; rfl) hw.2.2.1.symm ok (gLe.refl _) hg (fun c hc => by cases hc) h12 (fun j hj => absurd hj (Nat.not_lt_zero j)) (fun _ _ _ => rfl) (fun c s' e => by cases e)
