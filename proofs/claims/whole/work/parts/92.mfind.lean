/-! ===== the model looks for the best terms ===== -/
theorem et_w5b {a b c o3 o4 : Option Value} : ∀ (j : Nat) (v : Value), ([a, b, c, none, none] : List (Option Value))[j]? = some (some v) → ([a, b, c, o3, o4] : List (Option Value))[j]? = some (some v)
  | 0, _, h => h
  | 1, _, h => h
  | 2, _, h => h
  | 3, _, h => by simp at h
  | 4, _, h => by simp at h
  | j + 5, _, h => by simp at h
theorem et_w5c {a b o2 o3 o4 : Option Value} : ∀ (j : Nat) (v : Value), ([a, b, none, none, none] : List (Option Value))[j]? = some (some v) → ([a, b, o2, o3, o4] : List (Option Value))[j]? = some (some v)
  | 0, _, h => h
  | 1, _, h => h
  | 2, _, h => by simp at h
  | 3, _, h => by simp at h
  | 4, _, h => by simp at h
  | j + 5, _, h => by simp at h
set_option maxHeartbeats 4000000 in
set_option maxRecDepth 100000 in
theorem c_M_findBest {sc : et_X} {h : Nat → et_MC} {d n : Nat} {th le a_ wr en al se ru un rs : Int32} {dc ds : Int64} {g : gr} {pr : Int32 → Nat} {v : Nat → tri} {p79 : Nat → Int32} {f80 f81 : Nat → Int64} {f82 f83 : Nat → Int32} (hok : gG 40 g) (h64 : h 64 = et_Mo th le a_ wr en al se ru (nI (gN g)) (nI (gC g)) un rs dc ds) (hg : et_mg (gI g) h) (h79 : h 79 = .inl (0, 128, .inl p79)) (hp : prOk p79 pr) (hv : bst g pr v) (h80 : h 80 = .inl (1, 104, .inr (.inl f80))) (h81 : h 81 = .inl (1, 104, .inr (.inl f81))) (h82 : h 82 = .inl (0, 6240, .inl f82)) (h83 : h 83 = .inl (0, 60, .inl f83)) : et_Cn sc Y_M_findBest (d + 2) [.ref 64] h n 0 0 (fun r h' n' => r = .inl none ∧ n' = n ∧ (∀ q, q ≠ 64 → (q < 80 ∨ 83 < q) → h' q = h q) ∧ (∃ dc' ds', h' 64 = et_Mo th le a_ wr en al se ru (nI (gN g)) (nI (gC g)) un rs dc' ds') ∧ ∃ c80 c81 b82 dr, h' 80 = .inl (1, 104, .inr (.inl c80)) ∧ h' 81 = .inl (1, 104, .inr (.inl c81)) ∧ h' 82 = .inl (0, 6240, .inl b82) ∧ h' 83 = .inl (0, 60, .inl dr) ∧ et_BS v (gC g) c80 c81 b82) := by
  refine et_Cn.of 4 rfl rfl (by decide) mV_M_findBest.1 ?_
  have hkM : kM = 4611686018427387904 := rfl
  obtain ⟨b68, b69, b70, b71, b72, h68, h69, h70, h71, h72, hnode, hname⟩ := id hg
  have ok1 := hok.1.1
  have ok2 := hok.1.2.1
  have ar := hok.2.2.2
  have hp1 : ∀ n, n < gN g → 1 ≤ pr (gS g n) := fun n hn => (hp _ (gAr_pt ar hn)).2.1
  have hs1 : ∀ n, n < gN g → (gS g n).toNatClampNeg < 128 := fun n hn => by have := (pt_nn (gAr_pt ar hn)).2.1; omega
  have put : ∀ (i : Nat) (b : Bool) (w : Nat → tri) (c80 c81 : Nat → Int64) (b82 dr : Nat → Int32) (t : tri) (hh : Nat → et_MC), i < gN g → et_BS w (gC g) c80 c81 b82 → tOk t → (t.2.1 ≤ 60 → chs dr t.2.1 ∧ num dr t.2.1 = t.2.2) → hh 64 = et_Mo th le a_ wr en al se ru (nI (gN g)) (nI (gC g)) un rs (lN t.1) (lN t.2.1) → hh 80 = .inl (1, 104, .inr (.inl c80)) → hh 81 = .inl (1, 104, .inr (.inl c81)) → hh 82 = .inl (0, 6240, .inl b82) → hh 83 = .inl (0, 60, .inl dr) → (∀ q, q ≠ 64 → (q < 80 ∨ 83 < q) → hh q = h q) → (∀ (c80' c81' : Nat → Int64) (b82' : Nat → Int32) (h2 : Nat → et_MC), h2 64 = et_Mo th le a_ wr en al se ru (nI (gN g)) (nI (gC g)) un rs (lN t.1) (lN t.2.1) → h2 80 = .inl (1, 104, .inr (.inl c80')) → h2 81 = .inl (1, 104, .inr (.inl c81')) → h2 82 = .inl (0, 6240, .inl b82') → h2 83 = .inl (0, 60, .inl dr) → (∀ q, q ≠ 64 → (q < 80 ∨ 83 < q) → h2 q = h q) → et_BS (gUp w (gH g i) t) (gC g) c80' c81' b82' → et_M sc Y_M_findBest (d + 2) 0 0 (fun r h' n' => r = .inl none ∧ n' = n ∧ (∀ q, q ≠ 64 → (q < 80 ∨ 83 < q) → h' q = h q) ∧ (∃ dc' ds', h' 64 = et_Mo th le a_ wr en al se ru (nI (gN g)) (nI (gC g)) un rs dc' ds') ∧ ∃ c80 c81 b82 dr, h' 80 = .inl (1, 104, .inr (.inl c80)) ∧ h' 81 = .inl (1, 104, .inr (.inl c81)) ∧ h' 82 = .inl (0, 6240, .inl b82) ∧ h' 83 = .inl (0, 60, .inl dr) ∧ et_BS v (gC g) c80 c81 b82) 204 [some (.ref 64), some (.int (bI true)), some (.int (nI i)), none, none] [] h2 n 0 0) → et_M sc Y_M_findBest (d + 2) 0 0 (fun r h' n' => r = .inl none ∧ n' = n ∧ (∀ q, q ≠ 64 → (q < 80 ∨ 83 < q) → h' q = h q) ∧ (∃ dc' ds', h' 64 = et_Mo th le a_ wr en al se ru (nI (gN g)) (nI (gC g)) un rs dc' ds') ∧ ∃ c80 c81 b82 dr, h' 80 = .inl (1, 104, .inr (.inl c80)) ∧ h' 81 = .inl (1, 104, .inr (.inl c81)) ∧ h' 82 = .inl (0, 6240, .inl b82) ∧ h' 83 = .inl (0, 60, .inl dr) ∧ et_BS v (gC g) c80 c81 b82) 147 [some (.ref 64), some (.int (bI b)), some (.int (nI i)), some (.int (nI (gH g i))), none] [] hh n 0 0 := by
    intro i b w c80 c81 b82 dr t hh hi hw tok hdr k64 k80 k81 k82 k83 fr K
    obtain ⟨o1, o2, o3⟩ := hok.1.2.2 i hi
    refine et_aload_n (i := 0) d_M_findBest_147 rfl rfl ?_
    refine et_getf (ci := 7) 27 d_M_findBest_148 k64 rfl in_M (by decide) fl_M_59 rfl ?_
    refine et_iload_n (i := 3) d_M_findBest_151 rfl rfl ?_
    refine et_aload_n (i := 0) d_M_findBest_152 rfl rfl ?_
    refine et_getf (ci := 7) 31 d_M_findBest_153 k64 rfl in_M (by decide) fl_M_203 rfl ?_
    refine et_lasn d_M_findBest_156 k80 (by omega) (by first | decide | omega) ?_
    refine et_aload_n (i := 0) d_M_findBest_157 rfl rfl ?_
    refine et_getf (ci := 7) 28 d_M_findBest_158 ((va_ne (by decide)).trans k64) rfl in_M (by decide) fl_M_63 rfl ?_
    refine et_iload_n (i := 3) d_M_findBest_161 rfl rfl ?_
    refine et_aload_n (i := 0) d_M_findBest_162 rfl rfl ?_
    refine et_getf (ci := 7) 32 d_M_findBest_163 ((va_ne (by decide)).trans k64) rfl in_M (by decide) fl_M_211 rfl ?_
    refine et_lasn d_M_findBest_166 ((va_ne (by decide)).trans k81) (by omega) (by first | decide | omega) ?_
    refine et_iconst (v := nI 0) d_M_findBest_167 (by decide) ?_
    refine et_istore (lv' := [_, _, _, _, _]) d_M_findBest_168 (by decide) rfl rfl ?_
    have loop : ∀ (s k : Nat) (e82 : Nat → Int32) (h1 : Nat → et_MC), k + s = 60 → h1 82 = .inl (0, 6240, .inl e82) → (∀ q, q ≠ 82 → h1 q = va_up (va_up hh 80 (.inl (1, 104, .inr (.inl (vp_updL c80 (gH g i) (lN t.1)))))) 81 (.inl (1, 104, .inr (.inl (vp_updL c81 (gH g i) (lN t.2.1))))) q) → (∀ j, j < k → e82 (60 * gH g i + j) = dr j) → (∀ q, (q < 60 * gH g i ∨ 60 * gH g i + 60 ≤ q) → e82 q = b82 q) → et_M sc Y_M_findBest (d + 2) 0 0 (fun r h' n' => r = .inl none ∧ n' = n ∧ (∀ q, q ≠ 64 → (q < 80 ∨ 83 < q) → h' q = h q) ∧ (∃ dc' ds', h' 64 = et_Mo th le a_ wr en al se ru (nI (gN g)) (nI (gC g)) un rs dc' ds') ∧ ∃ c80 c81 b82 dr, h' 80 = .inl (1, 104, .inr (.inl c80)) ∧ h' 81 = .inl (1, 104, .inr (.inl c81)) ∧ h' 82 = .inl (0, 6240, .inl b82) ∧ h' 83 = .inl (0, 60, .inl dr) ∧ et_BS v (gC g) c80 c81 b82) 170 [some (.ref 64), some (.int (bI b)), some (.int (nI i)), some (.int (nI (gH g i))), some (.int (nI k))] [] h1 n 0 0 := by
      intro s
      induction s with
      | zero =>
        intro k e82 h1 hk j82 fr1 p1 p2
        obtain rfl : k = 60 := by omega
        refine et_iload d_M_findBest_170 rfl ?_
        refine et_bipush (v := nI 60) d_M_findBest_172 (by decide) ?_
        refine et_icmp_ge (tgt := 202) d_M_findBest_174 (by decide) (fun _ => ?_) (fun q => absurd (nI_le (Nat.le_refl _) (by omega)) q)
        refine et_iconst (v := bI true) d_M_findBest_202 (by decide) ?_
        refine et_istore_n (i := 1) (lv' := [_, _, _, _, _]) d_M_findBest_203 rfl (by decide) rfl rfl ?_
        refine et_weak et_w5b (K _ _ e82 h1 ((fr1 64 (by decide)).trans ((va_ne (by decide)).trans ((va_ne (by decide)).trans k64))) ((fr1 80 (by decide)).trans ((va_ne (by decide)).trans va_eq)) ((fr1 81 (by decide)).trans va_eq) j82 ((fr1 83 (by decide)).trans ((va_ne (by decide)).trans ((va_ne (by decide)).trans k83))) (fun q q1 q2 => (fr1 q (by omega)).trans ((va_ne (by omega)).trans ((va_ne (by omega)).trans (fr q q1 q2)))) (fun c hc => ?_))
        by_cases e : c = gH g i
        · subst e
          rw [gUp_s, et_ls, et_ls]
          refine ⟨tok, rfl, rfl, fun h60 => ?_⟩
          obtain ⟨x1, x2⟩ := hdr h60
          have eq : ∀ j, j < t.2.1 → e82 (60 * gH g i + j) = dr j := fun j hj => p1 j (by omega)
          exact ⟨fun j hj => by show 0 ≤ e82 (60 * gH g i + j) ∧ (e82 (60 * gH g i + j)).toNatClampNeg < 128; rw [eq j hj]; exact x1 j hj, (num_same (t' := dr) eq).trans x2⟩
        · rw [gUp_n _ _ e, et_ln e, et_ln e]
          obtain ⟨y1, y2, y3, y4⟩ := hw c hc
          refine ⟨y1, y2, y3, fun h60 => ?_⟩
          obtain ⟨x1, x2⟩ := y4 h60
          have eq : ∀ j, j < (w c).2.1 → e82 (60 * c + j) = b82 (60 * c + j) := fun j hj => p2 _ (by omega)
          exact ⟨fun j hj => by show 0 ≤ e82 (60 * c + j) ∧ (e82 (60 * c + j)).toNatClampNeg < 128; rw [eq j hj]; exact x1 j hj, (num_same (t' := fun j => b82 (60 * c + j)) eq).trans x2⟩
      | succ s ih =>
        intro k e82 h1 hk j82 fr1 p1 p2
        have j64 := (fr1 64 (by decide)).trans ((va_ne (by decide)).trans ((va_ne (by decide)).trans k64))
        have j83 := (fr1 83 (by decide)).trans ((va_ne (by decide)).trans ((va_ne (by decide)).trans k83))
        refine et_iload d_M_findBest_170 rfl ?_
        refine et_bipush (v := nI 60) d_M_findBest_172 (by decide) ?_
        refine et_icmp_ge (tgt := 202) d_M_findBest_174 (by decide) (fun q => absurd q (nI_ge (by omega) (by omega))) (fun _ => ?_)
        refine et_aload_n (i := 0) d_M_findBest_177 rfl rfl ?_
        refine et_getf (ci := 7) 29 d_M_findBest_178 j64 rfl in_M (by decide) fl_M_66 rfl ?_
        refine et_bipush (v := nI 60) d_M_findBest_181 (by decide) ?_
        refine et_iload_n (i := 3) d_M_findBest_183 rfl rfl ?_
        refine et_imul d_M_findBest_184 ?_
        rw [nI_mul]
        refine et_iload d_M_findBest_185 rfl ?_
        refine et_iadd d_M_findBest_187 ?_
        rw [nI_add]
        refine et_aload_n (i := 0) d_M_findBest_188 rfl rfl ?_
        refine et_getf (ci := 7) 30 d_M_findBest_189 j64 rfl in_M (by decide) fl_M_69 rfl ?_
        refine et_iload d_M_findBest_192 rfl ?_
        refine et_ialn d_M_findBest_194 j83 (by omega) (by first | decide | omega) ?_
        refine et_iasn d_M_findBest_195 j82 (by omega) (by first | decide | omega) ?_
        refine et_iinc (lv' := [_, _, _, _, _]) d_M_findBest_196 rfl (v := nI (k + 1)) (nI_1 k) (by decide) rfl rfl ?_
        refine et_goto (tgt := 170) d_M_findBest_199 (by decide) ?_
        refine ih (k + 1) (upd e82 (60 * gH g i + k) (dr k)) _ (by omega) va_eq (fun q hq => (va_ne hq).trans (fr1 q hq)) (fun j hj => ?_) (fun q hq => ?_)
        · by_cases z : j = k
          · rw [z, pk_us]
          · rw [pk_un (by omega)]; exact p1 j (by omega)
        · rw [pk_un (by omega)]; exact p2 q hq
    exact loop 60 0 b82 _ (by omega) ((va_ne (by decide)).trans ((va_ne (by decide)).trans k82)) (fun _ _ => rfl) (fun j hj => absurd hj (Nat.not_lt_zero _)) (fun _ _ => rfl)
  have pass : ∀ (M : Nat), (∀ (b : Bool) (w : Nat → tri) (c80 c81 : Nat → Int64) (b82 dr : Nat → Int32) (dc ds : Int64) (hh : Nat → et_MC), mbI g pr v M (gN g) b w → et_BS w (gC g) c80 c81 b82 → hh 64 = et_Mo th le a_ wr en al se ru (nI (gN g)) (nI (gC g)) un rs dc ds → hh 80 = .inl (1, 104, .inr (.inl c80)) → hh 81 = .inl (1, 104, .inr (.inl c81)) → hh 82 = .inl (0, 6240, .inl b82) → hh 83 = .inl (0, 60, .inl dr) → (∀ q, q ≠ 64 → (q < 80 ∨ 83 < q) → hh q = h q) → et_M sc Y_M_findBest (d + 2) 0 0 (fun r h' n' => r = .inl none ∧ n' = n ∧ (∀ q, q ≠ 64 → (q < 80 ∨ 83 < q) → h' q = h q) ∧ (∃ dc' ds', h' 64 = et_Mo th le a_ wr en al se ru (nI (gN g)) (nI (gC g)) un rs dc' ds') ∧ ∃ c80 c81 b82 dr, h' 80 = .inl (1, 104, .inr (.inl c80)) ∧ h' 81 = .inl (1, 104, .inr (.inl c81)) ∧ h' 82 = .inl (0, 6240, .inl b82) ∧ h' 83 = .inl (0, 60, .inl dr) ∧ et_BS v (gC g) c80 c81 b82) 34 [some (.ref 64), some (.int (bI b)), none, none, none] [] hh n 0 0) → ∀ (s i : Nat) (b : Bool) (w : Nat → tri) (c80 c81 : Nat → Int64) (b82 dr : Nat → Int32) (dc ds : Int64) (hh : Nat → et_MC), i + s = gN g → mbI g pr v M i b w → et_BS w (gC g) c80 c81 b82 → hh 64 = et_Mo th le a_ wr en al se ru (nI (gN g)) (nI (gC g)) un rs dc ds → hh 80 = .inl (1, 104, .inr (.inl c80)) → hh 81 = .inl (1, 104, .inr (.inl c81)) → hh 82 = .inl (0, 6240, .inl b82) → hh 83 = .inl (0, 60, .inl dr) → (∀ q, q ≠ 64 → (q < 80 ∨ 83 < q) → hh q = h q) → et_M sc Y_M_findBest (d + 2) 0 0 (fun r h' n' => r = .inl none ∧ n' = n ∧ (∀ q, q ≠ 64 → (q < 80 ∨ 83 < q) → h' q = h q) ∧ (∃ dc' ds', h' 64 = et_Mo th le a_ wr en al se ru (nI (gN g)) (nI (gC g)) un rs dc' ds') ∧ ∃ c80 c81 b82 dr, h' 80 = .inl (1, 104, .inr (.inl c80)) ∧ h' 81 = .inl (1, 104, .inr (.inl c81)) ∧ h' 82 = .inl (0, 6240, .inl b82) ∧ h' 83 = .inl (0, 60, .inl dr) ∧ et_BS v (gC g) c80 c81 b82) 42 [some (.ref 64), some (.int (bI b)), some (.int (nI i)), none, none] [] hh n 0 0 := by
    intro M K s
    induction s with
    | zero =>
      intro i b w c80 c81 b82 dr dc ds hh hi Iv hw k64 k80 k81 k82 k83 fr
      obtain rfl : i = gN g := by omega
      refine et_iload_n (i := 2) d_M_findBest_42 rfl rfl ?_
      refine et_aload_n (i := 0) d_M_findBest_43 rfl rfl ?_
      refine et_getf (ci := 7) 11 d_M_findBest_44 k64 rfl in_M (by decide) fl_M_119 rfl ?_
      refine et_icmp_ge (tgt := 210) d_M_findBest_47 (by decide) (fun _ => ?_) (fun q => absurd (nI_le (Nat.le_refl _) (by omega)) q)
      refine et_goto (tgt := 34) d_M_findBest_210 (by decide) ?_
      exact et_weak et_w5c (K b w c80 c81 b82 dr dc ds hh Iv hw k64 k80 k81 k82 k83 fr)
    | succ s ih =>
      intro i b w c80 c81 b82 dr dc ds hh hi Iv hw k64 k80 k81 k82 k83 fr
      have hi' : i < gN g := by omega
      obtain ⟨e1, e2, e3, e4⟩ := hnode i hi'
      have e1 : b68 i = gS g i := e1
      have e2 : b69 i = eI (gL g i) := e2
      have e3 : b70 i = eI (gR g i) := e3
      have e4 : b71 i = nI (gH g i) := e4
      obtain ⟨o1, o2, o3⟩ := hok.1.2.2 i hi'
      have pt := gAr_pt ar hi'
      obtain ⟨q1, q2, q3⟩ := pt_nn pt
      obtain ⟨r1, r2, r3⟩ := hp _ pt
      have tw : ∀ c, c < gC g → tOk (w c) := Iv.1
      have k68 := (fr 68 (by decide) (by decide)).trans h68
      have k69 := (fr 69 (by decide) (by decide)).trans h69
      have k70 := (fr 70 (by decide) (by decide)).trans h70
      have k71 := (fr 71 (by decide) (by decide)).trans h71
      have k79 := (fr 79 (by decide) (by decide)).trans h79
      have eB1 : (cB g pr w i).1 = pr (gS g i) + (cA w (gL g i)).1 + (cA w (gR g i)).1 := rfl
      have eB2 : (cB g pr w i).2.1 = 1 + (cA w (gL g i)).2.1 + (cA w (gR g i)).2.1 := rfl
      have aL := cA_ok tw o2
      have aR := cA_ok tw o3
      have tail : ∀ (cst len nm : Nat) (dr2 : Nat → Int32) (h2 : Nat → et_MC), cst = min (cB g pr w i).1 (kM + 1) → dSt cst len dr2 nm → ((cB g pr w i).1 ≤ kM → len = (cB g pr w i).2.1 ∧ (len ≤ 60 → nm = (cB g pr w i).2.2)) → h2 64 = et_Mo th le a_ wr en al se ru (nI (gN g)) (nI (gC g)) un rs (lN cst) (lN len) → h2 83 = .inl (0, 60, .inl dr2) → (∀ q, q ≠ 64 → q ≠ 83 → h2 q = hh q) → et_M sc Y_M_findBest (d + 2) 0 0 (fun r h' n' => r = .inl none ∧ n' = n ∧ (∀ q, q ≠ 64 → (q < 80 ∨ 83 < q) → h' q = h q) ∧ (∃ dc' ds', h' 64 = et_Mo th le a_ wr en al se ru (nI (gN g)) (nI (gC g)) un rs dc' ds') ∧ ∃ c80 c81 b82 dr, h' 80 = .inl (1, 104, .inr (.inl c80)) ∧ h' 81 = .inl (1, 104, .inr (.inl c81)) ∧ h' 82 = .inl (0, 6240, .inl b82) ∧ h' 83 = .inl (0, 60, .inl dr) ∧ et_BS v (gC g) c80 c81 b82) 121 [some (.ref 64), some (.int (bI b)), some (.int (nI i)), none, none] [] h2 n 0 0 := by
        intro cst len nm dr2 h2 hcst hd hB l64 l83 fr2
        have l80 := (fr2 80 (by decide) (by decide)).trans k80
        have l81 := (fr2 81 (by decide) (by decide)).trans k81
        have l82 := (fr2 82 (by decide) (by decide)).trans k82
        have l71 := (fr2 71 (by decide) (by decide)).trans k71
        have fr3 : ∀ q, q ≠ 64 → (q < 80 ∨ 83 < q) → h2 q = h q := fun q z1 z2 => (fr2 q z1 (by omega)).trans (fr q z1 z2)
        refine et_aload_n (i := 0) d_M_findBest_121 rfl rfl ?_
        refine et_getf (ci := 7) 16 d_M_findBest_122 l64 rfl in_M (by decide) fl_M_32 rfl ?_
        refine et_iload_n (i := 2) d_M_findBest_125 rfl rfl ?_
        refine et_ialn d_M_findBest_126 l71 (by omega) (by first | decide | omega) ?_
        rw [e4]
        refine et_istore_n (i := 3) (lv' := [_, _, _, _, _]) d_M_findBest_127 rfl (by decide) rfl rfl ?_
        refine et_aload_n (i := 0) d_M_findBest_128 rfl rfl ?_
        refine et_getf (ci := 7) 31 d_M_findBest_129 l64 rfl in_M (by decide) fl_M_203 rfl ?_
        refine et_ldc2 d_M_findBest_132 kl_M_199 ?_
        rw [lN_kM]
        refine et_lcmp d_M_findBest_135 ?_
        refine et_if_gt (tgt := 204) d_M_findBest_136 (by decide) (fun q => ?_) (fun q => ?_)
        · have z2 : kM < cst := (pk_lLT (by omega) (by omega)).mp ((lg_cmp_gt _ _).mp q)
          refine et_iinc (lv' := [_, _, _, _, _]) d_M_findBest_204 rfl (v := nI (i + 1)) (nI_1 i) (by decide) rfl rfl ?_
          refine et_goto (tgt := 42) d_M_findBest_207 (by decide) ?_
          exact et_weak et_w5b (ih (i + 1) b w c80 c81 b82 dr2 _ _ h2 (by omega) (mb_keep Iv (fun z => by omega)) hw l64 l80 l81 l82 l83 fr3)
        · have z2 : cst ≤ kM := Nat.le_of_not_lt fun z => q ((lg_cmp_gt _ _).mpr ((pk_lLT (by omega) (by omega)).mpr z))
          have z3 : (cB g pr w i).1 ≤ kM := by omega
          have z4 : cst = (cB g pr w i).1 := by omega
          obtain ⟨z5, z6⟩ := hB z3
          obtain ⟨d1, d2⟩ := hd.2 z2
          have third : 60 < len → (cB g pr w i).2.2 = 0 := fun z => by
            rw [z5] at z
            have z : 60 < 1 + (cA w (gL g i)).2.1 + (cA w (gR g i)).2.1 := z
            show (if _ then _ else _) = 0
            rw [if_neg (by omega)]
          have dd : len ≤ 60 → chs dr2 len ∧ num dr2 len = (cB g pr w i).2.2 := fun z => by
            obtain ⟨x1, x2⟩ := d2 z
            exact ⟨x1, x2.trans (z6 z)⟩
          have eqB : (cst, len, (cB g pr w i).2.2) = cB g pr w i := by rw [z4, z5]
          refine et_aload_n (i := 0) d_M_findBest_139 rfl rfl ?_
          refine et_iload_n (i := 3) d_M_findBest_140 rfl rfl ?_
          refine et_invV mV_M_isBetter (As := [_]) rfl d_M_findBest_141 lk_M_219 len_M_isBetter l64 rfl (Nat.le_of_ble_eq_true rfl) (c_M_isBetter (d := d + 1) (gH g i) cst len (cB g pr w i).2.2 o1 (by omega) hw z2 d1 dd third l64 l80 l81 l82 l83) (Nat.le_refl _) (Nat.le_of_ble_eq_true rfl) (Nat.le_of_ble_eq_true rfl) (fun v h3 n' hp => ?_) (fun x h' n' hp => by obtain ⟨-, -, ⟨e, -⟩ | ⟨e, -⟩⟩ := hp <;> cases e)
          obtain ⟨hn2, hh2, hres⟩ := hp
          replace hh2 := hh2.symm
          subst hh2
          replace hn2 := hn2.symm
          subst hn2
          rw [eqB] at hres
          rcases hres with ⟨hv1, hne⟩ | ⟨hv1, hle⟩
          · cases hv1
            refine et_if_eq (tgt := 204) d_M_findBest_144 (by decide) (fun q => absurd q (by decide)) (fun _ => ?_)
            have Iv2 := mb_put hok.1 hp1 hs1 hv Iv hi' z3 hne
            refine put i b w c80 c81 b82 dr2 (cB g pr w i) h2 hi' hw (comb_ok (hp1 i hi') (hs1 i hi') aL aR z3) (fun z => by rw [← z5] at z ⊢; exact dd z) (by rw [l64, z4, z5]) l80 l81 l82 l83 fr3 (fun c80' c81' b82' h4 p1 p2 p3 p4 p5 p6 p7 => ?_)
            refine et_iinc (lv' := [_, _, _, _, _]) d_M_findBest_204 rfl (v := nI (i + 1)) (nI_1 i) (by decide) rfl rfl ?_
            refine et_goto (tgt := 42) d_M_findBest_207 (by decide) ?_
            exact ih (i + 1) true _ c80' c81' b82' dr2 _ _ h4 (by omega) Iv2 p7 p1 p2 p3 p4 p5 p6
          · cases hv1
            refine et_if_eq (tgt := 204) d_M_findBest_144 (by decide) (fun _ => ?_) (fun q => absurd rfl q)
            refine et_iinc (lv' := [_, _, _, _, _]) d_M_findBest_204 rfl (v := nI (i + 1)) (nI_1 i) (by decide) rfl rfl ?_
            refine et_goto (tgt := 42) d_M_findBest_207 (by decide) ?_
            exact et_weak et_w5b (ih (i + 1) b w c80 c81 b82 dr2 _ _ h2 (by omega) (mb_keep Iv (fun _ => hle)) hw l64 l80 l81 l82 l83 fr3)
      have second : ∀ (cst len nm : Nat) (dr2 : Nat → Int32) (h2 : Nat → et_MC), cst = min (pr (gS g i) + (cA w (gL g i)).1) (kM + 1) → dSt cst len dr2 nm → len ≤ kM → (pr (gS g i) + (cA w (gL g i)).1 ≤ kM → len = 1 + (cA w (gL g i)).2.1 ∧ (len ≤ 60 → nm = (gS g i).toNatClampNeg * 128 ^ (cA w (gL g i)).2.1 + (cA w (gL g i)).2.2)) → h2 64 = et_Mo th le a_ wr en al se ru (nI (gN g)) (nI (gC g)) un rs (lN cst) (lN len) → h2 83 = .inl (0, 60, .inl dr2) → (∀ q, q ≠ 64 → q ≠ 83 → h2 q = hh q) → et_M sc Y_M_findBest (d + 2) 0 0 (fun r h' n' => r = .inl none ∧ n' = n ∧ (∀ q, q ≠ 64 → (q < 80 ∨ 83 < q) → h' q = h q) ∧ (∃ dc' ds', h' 64 = et_Mo th le a_ wr en al se ru (nI (gN g)) (nI (gC g)) un rs dc' ds') ∧ ∃ c80 c81 b82 dr, h' 80 = .inl (1, 104, .inr (.inl c80)) ∧ h' 81 = .inl (1, 104, .inr (.inl c81)) ∧ h' 82 = .inl (0, 6240, .inl b82) ∧ h' 83 = .inl (0, 60, .inl dr) ∧ et_BS v (gC g) c80 c81 b82) 102 [some (.ref 64), some (.int (bI b)), some (.int (nI i)), none, none] [] h2 n 0 0 := by
        intro cst len nm dr2 h2 hcst hd hl hB l64 l83 fr2
        have l80 := (fr2 80 (by decide) (by decide)).trans k80
        have l81 := (fr2 81 (by decide) (by decide)).trans k81
        have l82 := (fr2 82 (by decide) (by decide)).trans k82
        have l70 := (fr2 70 (by decide) (by decide)).trans k70
        refine et_aload_n (i := 0) d_M_findBest_102 rfl rfl ?_
        refine et_getf (ci := 7) 15 d_M_findBest_103 l64 rfl in_M (by decide) fl_M_29 rfl ?_
        refine et_iload_n (i := 2) d_M_findBest_106 rfl rfl ?_
        refine et_ialn d_M_findBest_107 l70 (by omega) (by first | decide | omega) ?_
        rw [e3]
        cases hR : gR g i with
        | zero =>
          rw [hR] at eB1 eB2
          have eB1 : (cB g pr w i).1 = pr (gS g i) + (cA w (gL g i)).1 + 0 := eB1
          have eB2 : (cB g pr w i).2.1 = 1 + (cA w (gL g i)).2.1 + 0 := eB2
          rw [eI_0]
          refine et_if_lt (tgt := 121) d_M_findBest_108 (by decide) (fun _ => ?_) (fun q => absurd (by decide) q)
          refine tail cst len nm dr2 h2 (by omega) hd (fun z => ?_) l64 l83 fr2
          obtain ⟨x1, x2⟩ := hB (by omega)
          refine ⟨by omega, fun h60 => ?_⟩
          rw [x2 h60]
          show _ = (if 1 + (cA w (gL g i)).2.1 + (cA w (gR g i)).2.1 ≤ 60 then _ else _)
          rw [hR]
          have c0 : (cA w 0) = (0, 0, 0) := rfl
          rw [c0, if_pos (by show 1 + (cA w (gL g i)).2.1 + 0 ≤ 60; omega)]
          show _ = _ * 128 ^ ((cA w (gL g i)).2.1 + 0) + _ * 128 ^ 0 + 0
          rw [Nat.pow_zero, Nat.mul_one, Nat.add_zero, Nat.add_zero]
        | succ c =>
          have aR' := aR
          rw [hR] at o3 eB1 eB2 aR'
          have aR' : tOk (w c) := aR'
          have eB1 : (cB g pr w i).1 = pr (gS g i) + (cA w (gL g i)).1 + (w c).1 := eB1
          have eB2 : (cB g pr w i).2.1 = 1 + (cA w (gL g i)).2.1 + (w c).2.1 := eB2
          rw [eI_s]
          refine et_if_lt (tgt := 121) d_M_findBest_108 (by decide) (fun q => absurd q (nI_n0 (by omega))) (fun _ => ?_)
          refine et_aload_n (i := 0) d_M_findBest_111 rfl rfl ?_
          refine et_aload_n (i := 0) d_M_findBest_112 rfl rfl ?_
          refine et_getf (ci := 7) 15 d_M_findBest_113 l64 rfl in_M (by decide) fl_M_29 rfl ?_
          refine et_iload_n (i := 2) d_M_findBest_116 rfl rfl ?_
          refine et_ialn d_M_findBest_117 l70 (by omega) (by first | decide | omega) ?_
          rw [e3, hR, eI_s]
          refine et_invV mV_M_append (As := [_]) rfl d_M_findBest_118 lk_M_216 len_M_append l64 rfl (Nat.le_of_ble_eq_true rfl) (c_M_append (d := d) c cst len nm o3 (by omega) hw hd hl l64 l80 l81 l82 l83) (Nat.le_refl _) (Nat.le_of_ble_eq_true rfl) (Nat.le_of_ble_eq_true rfl) (fun v h3 n' hp => ?_) (fun x h' n' hp => by cases hp.1)
          obtain ⟨hv1, hn2, fr3, len', nm', dr', m64, m83, x1, x2, -⟩ := hp
          cases hv1
          replace hn2 := hn2.symm
          subst hn2
          refine tail _ len' nm' dr' h3 (by omega) x1 (fun z => ?_) m64 m83 (fun q y1 y2 => (fr3 q y1 y2).trans (fr2 q y1 y2))
          obtain ⟨y1, y2⟩ := hB (by omega)
          obtain ⟨y3, y4⟩ := x2 (by omega)
          refine ⟨by omega, fun h60 => ?_⟩
          rw [y4 h60, y2 (by omega)]
          show _ = (if 1 + (cA w (gL g i)).2.1 + (cA w (gR g i)).2.1 ≤ 60 then _ else _)
          rw [hR]
          have c0 : (cA w (c + 1)) = w c := rfl
          rw [c0, if_pos (by omega), Nat.add_mul, Nat.mul_assoc, ← Nat.pow_add]
      refine et_iload_n (i := 2) d_M_findBest_42 rfl rfl ?_
      refine et_aload_n (i := 0) d_M_findBest_43 rfl rfl ?_
      refine et_getf (ci := 7) 11 d_M_findBest_44 k64 rfl in_M (by decide) fl_M_119 rfl ?_
      refine et_icmp_ge (tgt := 210) d_M_findBest_47 (by decide) (fun q => absurd q (nI_ge (by omega) (by omega))) (fun _ => ?_)
      refine et_aload_n (i := 0) d_M_findBest_50 rfl rfl ?_
      refine et_getf (ci := 7) 30 d_M_findBest_51 k64 rfl in_M (by decide) fl_M_69 rfl ?_
      refine et_iconst (v := nI 0) d_M_findBest_54 (by decide) ?_
      refine et_aload_n (i := 0) d_M_findBest_55 rfl rfl ?_
      refine et_getf (ci := 7) 13 d_M_findBest_56 k64 rfl in_M (by decide) fl_M_23 rfl ?_
      refine et_iload_n (i := 2) d_M_findBest_59 rfl rfl ?_
      refine et_ialn d_M_findBest_60 k68 (by omega) (by first | decide | omega) ?_
      rw [e1]
      refine et_iasn d_M_findBest_61 k83 (by omega) (by first | decide | omega) ?_
      refine et_aload_n (i := 0) d_M_findBest_62 rfl rfl ?_
      refine et_aload_n (i := 0) d_M_findBest_63 rfl rfl ?_
      refine et_getf (ci := 7) 26 d_M_findBest_64 ((va_ne (by decide)).trans k64) rfl in_M (by decide) fl_M_56 rfl ?_
      refine et_aload_n (i := 0) d_M_findBest_67 rfl rfl ?_
      refine et_getf (ci := 7) 13 d_M_findBest_68 ((va_ne (by decide)).trans k64) rfl in_M (by decide) fl_M_23 rfl ?_
      refine et_iload_n (i := 2) d_M_findBest_71 rfl rfl ?_
      refine et_ialn d_M_findBest_72 ((va_ne (by decide)).trans k68) (by omega) (by first | decide | omega) ?_
      rw [e1]
      refine et_iald d_M_findBest_73 ((va_ne (by decide)).trans k79) (by rw [q3]; exact vp_in_nI (by omega) (by decide)) ?_
      rw [r1]
      refine et_i2l d_M_findBest_74 (nI_l (by omega)) ?_
      refine et_putf (ci := 7) 31 d_M_findBest_75 ((va_ne (by decide)).trans k64) rfl in_M ty_M nm_M (by decide) fl_M_203 rfl rfl (fun _ => rfl) (fun _ => rfl) (Nat.le_of_ble_eq_true rfl) (fs' := [_, _, _, _, _, _, _, _, _, _, _, _, _, _, _, _, _, _, _, _, _, _, _, _, _, _, _, _, _, _, _, _, _]) rfl ?_
      refine et_aload_n (i := 0) d_M_findBest_78 rfl rfl ?_
      refine et_lconst (v := lN 1) d_M_findBest_79 (by decide) ?_
      refine et_putf (ci := 7) 32 d_M_findBest_80 rfl rfl in_M ty_M nm_M (by decide) fl_M_211 rfl rfl (fun _ => rfl) (fun _ => rfl) (Nat.le_of_ble_eq_true rfl) (fs' := [_, _, _, _, _, _, _, _, _, _, _, _, _, _, _, _, _, _, _, _, _, _, _, _, _, _, _, _, _, _, _, _, _]) rfl ?_
      refine et_aload_n (i := 0) d_M_findBest_83 rfl rfl ?_
      refine et_getf (ci := 7) 14 d_M_findBest_84 rfl rfl in_M (by decide) fl_M_26 rfl ?_
      refine et_iload_n (i := 2) d_M_findBest_87 rfl rfl ?_
      refine et_ialn d_M_findBest_88 ((va_ne (by decide)).trans ((va_ne (by decide)).trans ((va_ne (by decide)).trans k69))) (by omega) (by first | decide | omega) ?_
      rw [e2]
      have frA : ∀ q, q ≠ 64 → q ≠ 83 → va_up (va_up (va_up hh 83 (.inl (0, 60, .inl (upd dr 0 (gS g i))))) 64 (et_Mo th le a_ wr en al se ru (nI (gN g)) (nI (gC g)) un rs (lN (pr (gS g i))) ds)) 64 (et_Mo th le a_ wr en al se ru (nI (gN g)) (nI (gC g)) un rs (lN (pr (gS g i))) (lN 1)) q = hh q := fun q y1 y2 => (va_ne y1).trans ((va_ne y1).trans (va_ne y2))
      have dS : dSt (pr (gS g i)) 1 (upd dr 0 (gS g i)) (gS g i).toNatClampNeg := by
        refine ⟨by omega, fun _ => ⟨r2, fun _ => ⟨fun j hj => ?_, ?_⟩⟩⟩
        · rw [show j = 0 by omega, pk_us]; exact ⟨q1, by omega⟩
        · show 0 * 128 + (upd dr 0 (gS g i) 0).toNatClampNeg = _
          rw [pk_us]; omega
      cases hL : gL g i with
      | zero =>
        rw [eI_0]
        refine et_if_lt (tgt := 102) d_M_findBest_89 (by decide) (fun _ => ?_) (fun q => absurd (by decide) q)
        refine second (pr (gS g i)) 1 (gS g i).toNatClampNeg _ _ ?_ dS (by omega) (fun _ => ?_) va_eq ((va_ne (by decide)).trans ((va_ne (by decide)).trans va_eq)) frA
        · rw [hL]; show _ = min (_ + 0) _; omega
        · rw [hL]; exact ⟨rfl, fun _ => by show _ = _ * 128 ^ 0 + 0; rw [Nat.pow_zero, Nat.mul_one, Nat.add_zero]⟩
      | succ c =>
        have aL' := aL
        rw [hL] at o2 aL'
        have aL' : tOk (w c) := aL'
        rw [eI_s]
        refine et_if_lt (tgt := 102) d_M_findBest_89 (by decide) (fun q => absurd q (nI_n0 (by omega))) (fun _ => ?_)
        refine et_aload_n (i := 0) d_M_findBest_92 rfl rfl ?_
        refine et_aload_n (i := 0) d_M_findBest_93 rfl rfl ?_
        refine et_getf (ci := 7) 14 d_M_findBest_94 rfl rfl in_M (by decide) fl_M_26 rfl ?_
        refine et_iload_n (i := 2) d_M_findBest_97 rfl rfl ?_
        refine et_ialn d_M_findBest_98 ((va_ne (by decide)).trans ((va_ne (by decide)).trans ((va_ne (by decide)).trans k69))) (by omega) (by first | decide | omega) ?_
        rw [e2, hL, eI_s]
        refine et_invV mV_M_append (As := [_]) rfl d_M_findBest_99 lk_M_216 len_M_append rfl rfl (Nat.le_of_ble_eq_true rfl) (c_M_append (d := d) c (pr (gS g i)) 1 (gS g i).toNatClampNeg o2 (by omega) hw dS (by omega) va_eq (by rw [frA 80 (by decide) (by decide)]; exact k80) (by rw [frA 81 (by decide) (by decide)]; exact k81) (by rw [frA 82 (by decide) (by decide)]; exact k82) ((va_ne (by decide)).trans ((va_ne (by decide)).trans va_eq))) (Nat.le_refl _) (Nat.le_of_ble_eq_true rfl) (Nat.le_of_ble_eq_true rfl) (fun v h3 n' hp => ?_) (fun x h' n' hp => by cases hp.1)
        obtain ⟨hv1, hn2, fr3, len', nm', dr', m64, m83, x1, x2, x3⟩ := hp
        cases hv1
        replace hn2 := hn2.symm
        subst hn2
        refine second _ len' nm' dr' h3 (by rw [hL]; rfl) x1 x3 (fun z => ?_) m64 m83 (fun q y1 y2 => (fr3 q y1 y2).trans (frA q y1 y2))
        rw [hL] at z ⊢
        exact x2 z
  have outer : ∀ (M : Nat) (b : Bool) (w : Nat → tri) (c80 c81 : Nat → Int64) (b82 dr : Nat → Int32) (dc ds : Int64) (hh : Nat → et_MC), tSum w (gC g) ≤ M → mbI g pr v (tSum w (gC g)) 0 false w → (b = false → ∀ c, c < gC g → w c = v c) → et_BS w (gC g) c80 c81 b82 → hh 64 = et_Mo th le a_ wr en al se ru (nI (gN g)) (nI (gC g)) un rs dc ds → hh 80 = .inl (1, 104, .inr (.inl c80)) → hh 81 = .inl (1, 104, .inr (.inl c81)) → hh 82 = .inl (0, 6240, .inl b82) → hh 83 = .inl (0, 60, .inl dr) → (∀ q, q ≠ 64 → (q < 80 ∨ 83 < q) → hh q = h q) → et_M sc Y_M_findBest (d + 2) 0 0 (fun r h' n' => r = .inl none ∧ n' = n ∧ (∀ q, q ≠ 64 → (q < 80 ∨ 83 < q) → h' q = h q) ∧ (∃ dc' ds', h' 64 = et_Mo th le a_ wr en al se ru (nI (gN g)) (nI (gC g)) un rs dc' ds') ∧ ∃ c80 c81 b82 dr, h' 80 = .inl (1, 104, .inr (.inl c80)) ∧ h' 81 = .inl (1, 104, .inr (.inl c81)) ∧ h' 82 = .inl (0, 6240, .inl b82) ∧ h' 83 = .inl (0, 60, .inl dr) ∧ et_BS v (gC g) c80 c81 b82) 34 [some (.ref 64), some (.int (bI b)), none, none, none] [] hh n 0 0 := by
    intro M
    induction M with
    | zero =>
      intro b w c80 c81 b82 dr dc ds hh hM Iv hb hw k64 k80 k81 k82 k83 fr
      refine et_iload_n (i := 1) d_M_findBest_34 rfl rfl ?_
      cases b with
      | false =>
        refine et_if_eq (tgt := 213) d_M_findBest_35 (by decide) (fun _ => ?_) (fun q => absurd rfl q)
        exact et_vret d_M_findBest_213 rfl (Nat.le_refl _) (Nat.le_refl _) ⟨rfl, rfl, fr, ⟨dc, ds, k64⟩, c80, c81, b82, dr, k80, k81, k82, k83, fun c hc => by rw [← hb rfl c hc]; exact hw c hc⟩
      | true =>
        refine et_if_eq (tgt := 213) d_M_findBest_35 (by decide) (fun q => absurd q (by decide)) (fun _ => ?_)
        refine et_iconst (v := bI false) d_M_findBest_38 (by decide) ?_
        refine et_istore_n (i := 1) (lv' := [_, _, _, _, _]) d_M_findBest_39 rfl (by decide) rfl rfl ?_
        refine et_iconst (v := nI 0) d_M_findBest_40 (by decide) ?_
        refine et_istore_n (i := 2) (lv' := [_, _, _, _, _]) d_M_findBest_41 rfl (by decide) rfl rfl ?_
        refine pass (tSum w (gC g)) (fun b2 w2 c802 c812 b822 dr2 dc2 ds2 h2 Iv2 hw2 p64 p80 p81 p82 p83 fr2 => ?_) (gN g) 0 false w c80 c81 b82 dr dc ds hh (by omega) Iv hw k64 k80 k81 k82 k83 fr
        cases b2 with
        | false =>
          have hb := fun (_ : false = false) => mb_end hok.1 hp1 hv Iv2
          refine et_iload_n (i := 1) d_M_findBest_34 rfl rfl ?_
          refine et_if_eq (tgt := 213) d_M_findBest_35 (by decide) (fun _ => ?_) (fun q => absurd rfl q)
          exact et_vret d_M_findBest_213 rfl (Nat.le_refl _) (Nat.le_refl _) ⟨rfl, rfl, fr2, ⟨dc2, ds2, p64⟩, c802, c812, b822, dr2, p80, p81, p82, p83, fun c hc => by rw [← hb rfl c hc]; exact hw2 c hc⟩
        | true =>
          have lt := Iv2.2.2.2.2.2 rfl
          omega
    | succ M ih =>
      intro b w c80 c81 b82 dr dc ds hh hM Iv hb hw k64 k80 k81 k82 k83 fr
      refine et_iload_n (i := 1) d_M_findBest_34 rfl rfl ?_
      cases b with
      | false =>
        refine et_if_eq (tgt := 213) d_M_findBest_35 (by decide) (fun _ => ?_) (fun q => absurd rfl q)
        exact et_vret d_M_findBest_213 rfl (Nat.le_refl _) (Nat.le_refl _) ⟨rfl, rfl, fr, ⟨dc, ds, k64⟩, c80, c81, b82, dr, k80, k81, k82, k83, fun c hc => by rw [← hb rfl c hc]; exact hw c hc⟩
      | true =>
        refine et_if_eq (tgt := 213) d_M_findBest_35 (by decide) (fun q => absurd q (by decide)) (fun _ => ?_)
        refine et_iconst (v := bI false) d_M_findBest_38 (by decide) ?_
        refine et_istore_n (i := 1) (lv' := [_, _, _, _, _]) d_M_findBest_39 rfl (by decide) rfl rfl ?_
        refine et_iconst (v := nI 0) d_M_findBest_40 (by decide) ?_
        refine et_istore_n (i := 2) (lv' := [_, _, _, _, _]) d_M_findBest_41 rfl (by decide) rfl rfl ?_
        refine pass (tSum w (gC g)) (fun b2 w2 c802 c812 b822 dr2 dc2 ds2 h2 Iv2 hw2 p64 p80 p81 p82 p83 fr2 => ?_) (gN g) 0 false w c80 c81 b82 dr dc ds hh (by omega) Iv hw k64 k80 k81 k82 k83 fr
        cases b2 with
        | false =>
          have hb := fun (_ : false = false) => mb_end hok.1 hp1 hv Iv2
          refine et_iload_n (i := 1) d_M_findBest_34 rfl rfl ?_
          refine et_if_eq (tgt := 213) d_M_findBest_35 (by decide) (fun _ => ?_) (fun q => absurd rfl q)
          exact et_vret d_M_findBest_213 rfl (Nat.le_refl _) (Nat.le_refl _) ⟨rfl, rfl, fr2, ⟨dc2, ds2, p64⟩, c802, c812, b822, dr2, p80, p81, p82, p83, fun c hc => by rw [← hb rfl c hc]; exact hw2 c hc⟩
        | true =>
          have lt := Iv2.2.2.2.2.2 rfl
          exact ih true w2 c802 c812 b822 dr2 dc2 ds2 h2 (by omega) (mb_again Iv2) (fun z => by cases z) hw2 p64 p80 p81 p82 p83 fr2
  have init : ∀ (s i : Nat) (c80 c81 : Nat → Int64) (hh : Nat → et_MC), i + s = gC g → hh 80 = .inl (1, 104, .inr (.inl c80)) → hh 81 = .inl (1, 104, .inr (.inl c81)) → (∀ q, q ≠ 80 → q ≠ 81 → hh q = h q) → (∀ c, c < i → c80 c = lN (kM + 1) ∧ c81 c = lN 0) → et_M sc Y_M_findBest (d + 2) 0 0 (fun r h' n' => r = .inl none ∧ n' = n ∧ (∀ q, q ≠ 64 → (q < 80 ∨ 83 < q) → h' q = h q) ∧ (∃ dc' ds', h' 64 = et_Mo th le a_ wr en al se ru (nI (gN g)) (nI (gC g)) un rs dc' ds') ∧ ∃ c80 c81 b82 dr, h' 80 = .inl (1, 104, .inr (.inl c80)) ∧ h' 81 = .inl (1, 104, .inr (.inl c81)) ∧ h' 82 = .inl (0, 6240, .inl b82) ∧ h' 83 = .inl (0, 60, .inl dr) ∧ et_BS v (gC g) c80 c81 b82) 2 [some (.ref 64), some (.int (nI i)), none, none, none] [] hh n 0 0 := by
    intro s
    induction s with
    | zero =>
      intro i c80 c81 hh hi k80 k81 fr hcl
      obtain rfl : i = gC g := by omega
      have k64 := (fr 64 (by decide) (by decide)).trans h64
      refine et_iload_n (i := 1) d_M_findBest_2 rfl rfl ?_
      refine et_aload_n (i := 0) d_M_findBest_3 rfl rfl ?_
      refine et_getf (ci := 7) 12 d_M_findBest_4 k64 rfl in_M (by decide) fl_M_126 rfl ?_
      refine et_icmp_ge (tgt := 32) d_M_findBest_7 (by decide) (fun _ => ?_) (fun q => absurd (nI_le (Nat.le_refl _) (by omega)) q)
      refine et_iconst (v := bI true) d_M_findBest_32 (by decide) ?_
      refine et_istore_n (i := 1) (lv' := [_, _, _, _, _]) d_M_findBest_33 rfl (by decide) rfl rfl ?_
      exact outer _ true (fun _ => (kM + 1, 0, 0)) c80 c81 f82 f83 dc ds hh (Nat.le_refl _) (mb_0 hv) (fun z => by cases z) (fun c hc => ⟨(mb_0 (g := g) (pr := pr) hv).1 c hc, (hcl c hc).1, (hcl c hc).2, fun _ => ⟨fun j hj => absurd hj (Nat.not_lt_zero _), rfl⟩⟩) k64 k80 k81 ((fr 82 (by decide) (by decide)).trans h82) ((fr 83 (by decide) (by decide)).trans h83) (fun q q1 q2 => fr q (by omega) (by omega))
    | succ s ih =>
      intro i c80 c81 hh hi k80 k81 fr hcl
      have k64 := (fr 64 (by decide) (by decide)).trans h64
      refine et_iload_n (i := 1) d_M_findBest_2 rfl rfl ?_
      refine et_aload_n (i := 0) d_M_findBest_3 rfl rfl ?_
      refine et_getf (ci := 7) 12 d_M_findBest_4 k64 rfl in_M (by decide) fl_M_126 rfl ?_
      refine et_icmp_ge (tgt := 32) d_M_findBest_7 (by decide) (fun q => absurd q (nI_ge (by omega) (by omega))) (fun _ => ?_)
      refine et_aload_n (i := 0) d_M_findBest_10 rfl rfl ?_
      refine et_getf (ci := 7) 27 d_M_findBest_11 k64 rfl in_M (by decide) fl_M_59 rfl ?_
      refine et_iload_n (i := 1) d_M_findBest_14 rfl rfl ?_
      refine et_ldc2 d_M_findBest_15 kl_M_201 ?_
      rw [lN_kM1]
      refine et_lasn d_M_findBest_18 k80 (by omega) (by first | decide | omega) ?_
      refine et_aload_n (i := 0) d_M_findBest_19 rfl rfl ?_
      refine et_getf (ci := 7) 28 d_M_findBest_20 ((va_ne (by decide)).trans k64) rfl in_M (by decide) fl_M_63 rfl ?_
      refine et_iload_n (i := 1) d_M_findBest_23 rfl rfl ?_
      refine et_lconst (v := lN 0) d_M_findBest_24 (by decide) ?_
      refine et_lasn d_M_findBest_25 ((va_ne (by decide)).trans k81) (by omega) (by first | decide | omega) ?_
      refine et_iinc (lv' := [_, _, _, _, _]) d_M_findBest_26 rfl (v := nI (i + 1)) (nI_1 i) (by decide) rfl rfl ?_
      refine et_goto (tgt := 2) d_M_findBest_29 (by decide) ?_
      refine ih (i + 1) _ _ _ (by omega) ((va_ne (by decide)).trans va_eq) va_eq (fun q q1 q2 => (va_ne q2).trans ((va_ne q1).trans (fr q q1 q2))) (fun c hc => ?_)
      by_cases e : c = i
      · rw [e, et_ls, et_ls]; exact ⟨rfl, rfl⟩
      · rw [et_ln e, et_ln e]; exact hcl c (by omega)
  refine et_iconst (v := nI 0) d_M_findBest_0 (by decide) ?_
  refine et_istore_n (i := 1) (lv' := [_, _, _, _, _]) d_M_findBest_1 rfl (by decide) rfl rfl ?_
  exact init (gC g) 0 f80 f81 h (by omega) h80 h81 (fun _ _ _ => rfl) (fun c hc => absurd hc (Nat.not_lt_zero _))
