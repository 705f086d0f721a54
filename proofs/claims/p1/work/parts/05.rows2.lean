section ETR2
variable {sc : et_X} {Y : et_Y} {d mc ms : Nat} {Post : et_R → (Nat → et_MC) → Nat → Prop} {pc : Nat} {lv : List (Option Value)} {st : List Value} {h : Nat → et_MC} {n nc ns : Nat}
theorem et_sumc (B : Nat) (st : List Value) : ((st.map (et_em B)).map fun v => v.category).sum = (st.map fun v => v.category).sum := by
  rw [List.map_map]
  congr 1
  exact List.map_congr_left (fun v _ => et_em_cat B v)
theorem et_objInit {k index : Nat} (hdg : decode Y.2.1 pc = .ok (.invokespecial index, 3)) (h1 : Cond.methodLink Y.1.cls index Lib.objectInit ∈ et_W) (h2 : Cond.instanceMethod Lib.objectInit ∈ et_W) (h3 : Cond.code Lib.objectInit ⟨#[0xb1]⟩ 1 none ∈ et_W) (hst : (st.map fun v => v.category).sum ≤ 8)
    (kk : et_M sc Y d mc ms Post (pc + 3) lv st h n nc ns) : et_M sc Y d mc ms Post pc lv (.ref k :: st) h n nc ns := by
  intro p l e R s m args below meth c B D dA ls H locs C hP hF hL hl
  refine W.objInit (a := B + k) (rest := st.map (et_em B)) C.1 C.2.1 C.own (C.hts _ h1) (C.hts _ h2) (C.hts _ h3) rfl (hl.1.trans C.2.2.1.symm) rfl hdg ?_ ?_ (kk p l e R s m args below meth c B D dA ls H locs C hP hF hL hl)
  · rw [C.rm]
    show 1 ≤ 8 + d
    omega
  · rw [C.rm, et_sumc]
    show 2 * 0 + _ + 12 ≤ 120 + 90 * d
    omega
theorem et_new {index ci : Nat} {Cn : String} {T : u_T} {N : Nat} {fs : List Value} {ty0 : Nat → FieldType} (hdg : decode Y.2.1 pc = .ok (.new index, 3)) (hc : et_cl[ci]? = some (Cn, T, N)) (hin : ∀ w ∈ u_ws Cn T N, w ∈ et_W) (hty : ∀ k, k < N → parseFieldDescriptor (T k).2.2.1 = some (ty0 k))
    (hlk : Cond.classLink Y.1.cls index Cn ∈ et_W) (hins : Cond.instantiable Cn N ∈ et_W) (hini : Cond.initialized Cn ∈ et_W) (hfs : ∀ (B j : Nat), j < N → defaultValue (ty0 j) = vp_V (fs.map (et_em B)) j) (h1 : nc + 1 ≤ mc) (h2 : ns + N ≤ ms)
    (kk : et_M sc Y d mc ms Post (pc + 3) lv (.ref n :: st) (va_up h n (.inr (ci, fs))) (n + 1) (nc + 1) (ns + N)) : et_M sc Y d mc ms Post pc lv st h n nc ns := by
  intro p l e R s m args below meth c B D dA ls H locs C hP hF hL hl
  have hKn := C.kk.1 ci _ hc
  refine W.newcK C.1 C.2.1 C.own (C.hts _ hlk) (C.hts _ hins) (C.hts _ hini) rfl hdg (by rw [C.rm]; exact h1) (by rw [C.rm]; exact h2) hKn.2.1 hP.1 fun H1 kC hkC e1 z1 o1 => ?_
  exact kk p l e R s m args below meth c B D dA ls H1 locs C (hP.push (Or.inr ⟨_, hc, (u_born ty0 C.hts hin hKn hkC e1 hty).to (fun j hj => hfs B j hj)⟩) (by rw [z1, hP.1]) (fun q hq => o1 q (by rw [← hP.1]; exact hq))) (fun q hq => (o1 q (by omega)).trans (hF q hq)) hL hl
theorem et_newi {atype : ArrayType} {x : Int32} {N : Nat} (hdg : decode Y.2.1 pc = .ok (.newarray atype, 2)) (hat : newarray.typeOf atype = .int) (hw : Cond.arrayClass .int ∈ et_W) (hx : ¬ x < 0) (hN : x.toNatClampNeg = N) (hb : N * 4 ≤ 536870912) (h1 : nc + 1 ≤ mc) (h2 : ns + N ≤ ms)
    (kk : et_M sc Y d mc ms Post (pc + 2) lv (.ref n :: st) (va_up h n (.inl (0, N, .inl (fun _ => 0)))) (n + 1) (nc + 1) (ns + N)) : et_M sc Y d mc ms Post pc lv (.int x :: st) h n nc ns := by
  intro p l e R s m args below meth c B D dA ls H locs C hP hF hL hl
  refine va_newaK (rest := st.map (et_em B)) C.1 C.2.1 (by rw [hat]; exact C.hts _ hw) rfl hdg rfl hx hN (by rw [hat]; exact hb) (by rw [C.rm]; exact h1) (by rw [C.rm]; exact h2) hP.1 fun H1 cA e1 z1 o1 hA hNm => ?_
  rw [hat] at e1 hNm
  have hcA : cA = dA 0 := Option.some.inj (hNm.symm.trans (C.kk.2 0 _ rfl).2)
  subst hcA
  exact kk p l e R s m args below meth c B D dA ls H1 locs C (hP.push (Or.inr e1) (by rw [z1, hP.1]) (fun q hq => o1 q (by rw [← hP.1]; exact hq))) (fun q hq => (o1 q (by omega)).trans (hF q hq)) hL hl
theorem et_newl {atype : ArrayType} {x : Int32} {N : Nat} (hdg : decode Y.2.1 pc = .ok (.newarray atype, 2)) (hat : newarray.typeOf atype = .long) (hw : Cond.arrayClass .long ∈ et_W) (hx : ¬ x < 0) (hN : x.toNatClampNeg = N) (hb : N * 8 ≤ 536870912) (h1 : nc + 1 ≤ mc) (h2 : ns + N ≤ ms)
    (kk : et_M sc Y d mc ms Post (pc + 2) lv (.ref n :: st) (va_up h n (.inl (1, N, .inr (.inl (fun _ => 0))))) (n + 1) (nc + 1) (ns + N)) : et_M sc Y d mc ms Post pc lv (.int x :: st) h n nc ns := by
  intro p l e R s m args below meth c B D dA ls H locs C hP hF hL hl
  refine va_newaK (rest := st.map (et_em B)) C.1 C.2.1 (by rw [hat]; exact C.hts _ hw) rfl hdg rfl hx hN (by rw [hat]; exact hb) (by rw [C.rm]; exact h1) (by rw [C.rm]; exact h2) hP.1 fun H1 cA e1 z1 o1 hA hNm => ?_
  rw [hat] at e1 hNm
  have hcA : cA = dA 1 := Option.some.inj (hNm.symm.trans (C.kk.2 1 _ rfl).2)
  subst hcA
  exact kk p l e R s m args below meth c B D dA ls H1 locs C (hP.push (Or.inr e1) (by rw [z1, hP.1]) (fun q hq => o1 q (by rw [← hP.1]; exact hq))) (fun q hq => (o1 q (by omega)).trans (hF q hq)) hL hl
theorem et_newz {atype : ArrayType} {x : Int32} {N : Nat} (hdg : decode Y.2.1 pc = .ok (.newarray atype, 2)) (hat : newarray.typeOf atype = .boolean) (hw : Cond.arrayClass .boolean ∈ et_W) (hx : ¬ x < 0) (hN : x.toNatClampNeg = N) (hb : N * 1 ≤ 536870912) (h1 : nc + 1 ≤ mc) (h2 : ns + N ≤ ms)
    (kk : et_M sc Y d mc ms Post (pc + 2) lv (.ref n :: st) (va_up h n (.inl (2, N, .inl (fun _ => 0)))) (n + 1) (nc + 1) (ns + N)) : et_M sc Y d mc ms Post pc lv (.int x :: st) h n nc ns := by
  intro p l e R s m args below meth c B D dA ls H locs C hP hF hL hl
  refine va_newaK (rest := st.map (et_em B)) C.1 C.2.1 (by rw [hat]; exact C.hts _ hw) rfl hdg rfl hx hN (by rw [hat]; exact hb) (by rw [C.rm]; exact h1) (by rw [C.rm]; exact h2) hP.1 fun H1 cA e1 z1 o1 hA hNm => ?_
  rw [hat] at e1 hNm
  have hcA : cA = dA 2 := Option.some.inj (hNm.symm.trans (C.kk.2 2 _ rfl).2)
  subst hcA
  exact kk p l e R s m args below meth c B D dA ls H1 locs C (hP.push (Or.inr e1) (by rw [z1, hP.1]) (fun q hq => o1 q (by rw [← hP.1]; exact hq))) (fun q hq => (o1 q (by omega)).trans (hF q hq)) hL hl
/-! calls -/
/-- what a call behind its run goes on with, where the caller has no handler -/
theorem et_cont {Pc : et_R → (Nat → et_MC) → Nat → Prop} {mcc msc : Nat} {p : Program} {l : Launch} {e : Env} {R : Room} {s : State} {m : MethodId} {args : Array Value} {below : List Frame} {meth : Method} {c : Code} {B : Nat} {D : va_G} {dA : Nat → ClassId} {ls : Array Slot} {H : Heap} {locs : List Loc} {stk : List Value} {aa : Array Value}
    (C : et_C sc Y d mc ms B D dA p l R s m args meth c) (hF : ∀ q : Nat, q < B → H[q]? = s.heap[q]?) (hL : ∀ q ∈ locs, B ≤ q.base) (hl : lv_has ls Y.2.2.1 (et_ll B 0 lv))
    (hr : et_Run p l e R s m args below meth c H locs nc ns mcc msc (F0 m pc ls stk) (st.map (et_em B)) (et_Qc B D dA Pc aa) (fun q => B ≤ q)) (h1 : nc + mcc ≤ mc) (h2 : ns + msc ≤ ms)
    (kR : ∀ (v : Option Value) (h' : Nat → et_MC) (n' : Nat), Pc (.inl v) h' n' → et_M sc Y d mc ms Post (pc + 3) lv (v.toList ++ st) h' n' (nc + mcc) (ns + msc))
    (kT : ∀ (x : Nat) (h' : Nat → et_MC) (n' : Nat), Pc (.inr x) h' n' → Y.2.2.2.2 = [] ∧ Post (.inr x) h' n') :
    W p l e R s m args below meth c H locs nc ns (et_Q below (et_Qc B D dA Post) args s mc ms (fun q => B ≤ q)) (F0 m pc ls stk) := by
  intro T hT X
  obtain ⟨o, st₀, t, T', L, h0, X', hL', e1, e2, ⟨⟨r, h', n', hp, hP', hO⟩, hF'⟩, hd⟩ := hr T hT X
  have hFT : ∀ q : Nat, q < B → T'.heap[q]? = s.heap[q]? := fun q hq => by rw [e1, hF' q hq, h0]; exact hF q hq
  have hLL : ∀ q ∈ locs ++ L, B ≤ q.base := fun q hq => by
    rcases List.mem_append.mp hq with h | h
    · exact hL q h
    · exact hL' q h
  cases r with
  | inl v =>
    have hO' : o = .returned (v.map (et_em B)) := hO
    subst hO'
    rcases hd with ⟨v', hv', hst⟩ | ⟨x, hx, -⟩
    · cases hv'
      obtain ⟨t2, a1, b1⟩ := kR v h' n' hp p l e R s m args below meth c B D dA ls T'.heap (locs ++ L) C (by rw [e1]; exact hP') hFT hLL hl T' rfl X'
      refine ⟨t2, hst t2 ?_, b1⟩
      have e9 : (v.toList ++ st).map (et_em B) = (v.map (et_em B)).toList ++ st.map (et_em B) := by cases v <;> rfl
      rw [e9] at a1
      exact a1
    · cases hx
  | inr x =>
    obtain ⟨a, ce, hO1, hO2, hO3, hO4⟩ := hO
    subst hO1
    obtain ⟨hh0, hpost⟩ := kT x h' n' hp
    rcases hd with ⟨v', hv', -⟩ | ⟨x', hx, hst⟩
    · cases hv'
    · cases hx
      have hnil : c.exceptionTable.toList = [] := by
        have := C.tab
        rw [hh0] at this
        simpa using this
      obtain ⟨w1, w2, w3, w4, w5⟩ := (stand_widen X' h1 h2).leaveThrown (B + a) (g := { F0 m pc ls stk with stack := st.map (et_em B) }) rfl rfl rfl (fun x hx => by rw [hnil] at hx; cases hx) (hlocks := C.locks)
      refine ⟨_, hst _ w1, .threw (B + a), w2, w3, ⟨⟨.inr x, h', n', hpost, ?_, a, ce, rfl, ?_, ?_, hO4⟩, fun q hq => ?_⟩, w4, locs ++ L, w5, hLL⟩
      · show et_HP D dA B h' n' T'.heap
        rw [e1]; exact hP'
      · show T'.heap[B + a]? = some ce
        rw [e1]; exact hO2
      · show T'.vm.findClass _ = _
        rw [e2]; exact hO3
      · exact hFT q hq
theorem et_cb {Yc : et_Y} {dc mcc msc : Nat} {Pc : et_R → (Nat → et_MC) → Nat → Prop} {av : List Value} {p : Program} {l : Launch} {R : Room} {s : State} {m : MethodId} {args : Array Value} {meth : Method} {c : Code} {B : Nat} {D : va_G} {dA : Nat → ClassId} {H : Heap}
    (C : et_C sc Y d mc ms B D dA p l R s m args meth c) (hP : et_HP D dA B h n H) (hF : ∀ q : Nat, q < B → H[q]? = s.heap[q]?) (hcn : et_Cn sc Yc dc av h n mcc msc Pc) (hd : dc + 1 ≤ d) (hnl : Yc.2.2.1 ≤ 60) (hw : et_cw Yc.1 Yc.2.1 Yc.2.2.1 Yc.2.2.2.1 Yc.2.2.2.2 ∈ et_W) (hini : Cond.initialized Yc.1.cls ∈ et_W) :
    et_CB l R s args H Yc.1 Yc.2.1 Yc.2.2.1 Yc.2.2.2.1 Yc.2.2.2.2 et_W (et_rm dc mcc msc) (va_Pc (av.map (et_em B)) (fun U => et_HP D dA B h n U.heap ∧ et_Wd sc B D dA U)) (et_Qc B D dA Pc) mcc msc (fun q => B ≤ q) (av.map (et_em B)).toArray := by
  refine ⟨hcn l B D dA C.la, rfl, rfl, ?_, ?_, fun w hw a' U hW => word_at hW (et_good w hw) (C.hts w hw), C.hts _ hw, C.hts _ hini, fun U g mk hU hW => ⟨rfl, ?_, ?_⟩⟩
  · rw [C.rm]
    show 8 + dc + 1 ≤ 8 + d
    omega
  · rw [C.rm]
    show 8 + (Yc.2.2.1 + 11) + (120 + 90 * dc) ≤ 120 + 90 * d
    omega
  · show et_HP D dA B h n U.heap
    rw [hU]; exact hP
  · exact et_Wd.moved (u := s) (U := U.calling g mk _) hW (fun q hq => by show U.heap[q]? = _; rw [hU]; exact hF q hq) C.wd
/-- the facts of a method that is called on an object -/
def et_MV (Yc : et_Y) : Prop := et_cw Yc.1 Yc.2.1 Yc.2.2.1 Yc.2.2.2.1 Yc.2.2.2.2 ∈ et_W ∧ Cond.initialized Yc.1.cls ∈ et_W ∧ Cond.instanceMethod Yc.1 ∈ et_W ∧ Cond.selects Yc.1.cls Yc.1 Yc.1 ∈ et_W ∧ Yc.1.cls ≠ "java/lang/invoke/MethodHandle" ∧ Yc.1.cls ≠ "java/lang/invoke/VarHandle" ∧ Yc.2.2.1 ≤ 60
def et_MS (Yc : et_Y) : Prop := et_cw Yc.1 Yc.2.1 Yc.2.2.1 Yc.2.2.2.1 Yc.2.2.2.2 ∈ et_W ∧ Cond.initialized Yc.1.cls ∈ et_W ∧ Cond.static Yc.1 ∈ et_W ∧ Yc.1.cls ≠ "java/lang/invoke/MethodHandle" ∧ Yc.1.cls ≠ "java/lang/invoke/VarHandle" ∧ Yc.2.2.1 ≤ 60
def et_MI (Yc : et_Y) : Prop := et_cw Yc.1 Yc.2.1 Yc.2.2.1 Yc.2.2.2.1 Yc.2.2.2.2 ∈ et_W ∧ Cond.initialized Yc.1.cls ∈ et_W ∧ Cond.instanceMethod Yc.1 ∈ et_W ∧ Yc.1.cls ≠ "java/lang/invoke/MethodHandle" ∧ Yc.1.cls ≠ "java/lang/invoke/VarHandle" ∧ Yc.2.2.1 ≤ 60 ∧ Yc.1.name = "<init>" ∧ Yc.2.2.2.1 = none ∧ Yc.2.2.2.2 = []
def et_lk (own : String) (index : Nat) (y : MethodName) : Prop := Cond.methodLink own index y ∈ et_W ∨ ∃ host, Cond.methodLinkNest own index y host ∈ et_NST
theorem et_lk.use {own : String} {index : Nat} {y : MethodName} (hk : et_lk own index y) {B : Nat} {D : va_G} {dA : Nat → ClassId} {p : Program} {l : Launch} {R : Room} {s : State} {m : MethodId} {args : Array Value} {meth : Method} {c : Code} (C : et_C sc Y d mc ms B D dA p l R s m args meth c) :
    ∃ host, (Cond.methodLink own index y).before args s = true ∨ (Cond.methodLinkNest own index y host).before args s = true := by
  rcases hk with hk | ⟨host, hk⟩
  · exact ⟨"", Or.inl (C.hts _ hk)⟩
  · exact ⟨host, Or.inr (va_Nw.use rfl (C.wd.2.1 _ hk))⟩
theorem et_invV {Yc : et_Y} (mf : et_MV Yc) {dc mcc msc : Nat} {Pc : et_R → (Nat → et_MC) → Nat → Prop} {index k ci : Nat} {As stk fs : List Value} {T : u_T} {N : Nat} (hst : stk = As.reverse ++ .ref k :: st) (hdg : decode Y.2.1 pc = .ok (.invokevirtual index, 3)) (hlk : et_lk Y.1.cls index Yc.1) (hlen : (parseMethodDescriptor Yc.1.desc).map (fun d => d.parameters.length) = some As.length) (hh : h k = .inr (ci, fs)) (hc : et_cl[ci]? = some (Yc.1.cls, T, N)) (hsum : (st.map fun v => v.category).sum ≤ 8)
    (hcn : et_Cn sc Yc dc (.ref k :: As) h n mcc msc Pc) (hd : dc + 1 ≤ d) (h1 : nc + mcc ≤ mc) (h2 : ns + msc ≤ ms)
    (kR : ∀ (v : Option Value) (h' : Nat → et_MC) (n' : Nat), Pc (.inl v) h' n' → et_M sc Y d mc ms Post (pc + 3) lv (v.toList ++ st) h' n' (nc + mcc) (ns + msc))
    (kT : ∀ (x : Nat) (h' : Nat → et_MC) (n' : Nat), Pc (.inr x) h' n' → Y.2.2.2.2 = [] ∧ Post (.inr x) h' n') : et_M sc Y d mc ms Post pc lv stk h n nc ns := by
  intro p l e R s m args below meth c B D dA ls H locs C hP hF hL hl
  subst hst
  obtain ⟨m1, m2, m3, m4, m5, m6, m7⟩ := mf
  obtain ⟨-, cell, q1, q2, q3, -⟩ := hP.obj hh hc
  obtain ⟨host, hlink⟩ := hlk.use C
  have hrun := et_runV (p := p) (e := e) (m := m) (below := below) (meth := meth) (c := c) (locs := locs) (cells := nc) (slots := ns) (host := host) (C := Yc.1.cls) (index := index) (b := B + k) (As := As.map (et_em B)) (rest := st.map (et_em B)) (g := F0 m pc ls ((As.reverse ++ .ref k :: st).map (et_em B))) C.1 C.2.1 C.own (et_cb C hP hF hcn hd m7 m1 m2) hlink (C.hts _ m3) (C.hts _ m4) ⟨m5, m6⟩
    ⟨cell, q1, by rw [q3]; rfl, by rw [q2]; exact (C.kk.1 ci _ hc).2.1⟩ rfl (by rw [List.length_map]; exact hlen) (hl.1.trans C.2.2.1.symm) (by show (As.reverse ++ .ref k :: st).map (et_em B) = _; rw [List.map_append, List.map_reverse]; rfl) (by rw [et_sumc]; show 2 * 0 + _ ≤ 8; omega) hdg (by rw [C.rm]; exact ⟨h1, h2⟩)
  exact et_cont C hF hL hl hrun h1 h2 kR kT
theorem et_invS {Yc : et_Y} (mf : et_MS Yc) {dc mcc msc : Nat} {Pc : et_R → (Nat → et_MC) → Nat → Prop} {index : Nat} {As stk : List Value} (hst : stk = As.reverse ++ st) (hdg : decode Y.2.1 pc = .ok (.invokestatic index, 3)) (hlk : et_lk Y.1.cls index Yc.1) (hlen : (parseMethodDescriptor Yc.1.desc).map (fun d => d.parameters.length) = some As.length) (hsum : (st.map fun v => v.category).sum ≤ 8)
    (hcn : et_Cn sc Yc dc As h n mcc msc Pc) (hd : dc + 1 ≤ d) (h1 : nc + mcc ≤ mc) (h2 : ns + msc ≤ ms)
    (kR : ∀ (v : Option Value) (h' : Nat → et_MC) (n' : Nat), Pc (.inl v) h' n' → et_M sc Y d mc ms Post (pc + 3) lv (v.toList ++ st) h' n' (nc + mcc) (ns + msc))
    (kT : ∀ (x : Nat) (h' : Nat → et_MC) (n' : Nat), Pc (.inr x) h' n' → Y.2.2.2.2 = [] ∧ Post (.inr x) h' n') : et_M sc Y d mc ms Post pc lv stk h n nc ns := by
  intro p l e R s m args below meth c B D dA ls H locs C hP hF hL hl
  subst hst
  obtain ⟨m1, m2, m3, m5, m6, m7⟩ := mf
  obtain ⟨host, hlink⟩ := hlk.use C
  have hcode := C.hts _ m1
  have hnm : ∃ mk, s.methodNamed? Yc.1 = some mk := by
    cases h9 : s.methodNamed? Yc.1 with
    | some mk => exact ⟨mk, rfl⟩
    | none =>
      exfalso
      have h8 := C.hts _ m3
      simp [Cond.before, Cond.holds, Cond.value, h9] at h8
  have hrun := et_runS (p := p) (e := e) (m := m) (below := below) (meth := meth) (c := c) (locs := locs) (cells := nc) (slots := ns) (host := host) (index := index) (As := As.map (et_em B)) (rest := st.map (et_em B)) (g := F0 m pc ls ((As.reverse ++ st).map (et_em B))) C.1 C.2.1 C.own (et_cb C hP hF hcn hd m7 m1 m2) hlink (C.hts _ m3) ⟨m5, m6⟩ hnm
    rfl (by rw [List.length_map]; exact hlen) (hl.1.trans C.2.2.1.symm) (by show (As.reverse ++ st).map (et_em B) = _; rw [List.map_append, List.map_reverse]) (by rw [et_sumc]; show 2 * 0 + _ ≤ 8; omega) hdg (by rw [C.rm]; exact ⟨h1, h2⟩)
  exact et_cont C hF hL hl hrun h1 h2 kR kT
theorem et_invI {Yc : et_Y} (mf : et_MI Yc) {dc mcc msc : Nat} {Pc : et_R → (Nat → et_MC) → Nat → Prop} {index k : Nat} {As stk : List Value} (hst : stk = As.reverse ++ .ref k :: st) (hdg : decode Y.2.1 pc = .ok (.invokespecial index, 3)) (hlk : et_lk Y.1.cls index Yc.1) (hlen : (parseMethodDescriptor Yc.1.desc).map (fun d => d.parameters.length) = some As.length) (hsum : (st.map fun v => v.category).sum ≤ 8)
    (hcn : et_Cn sc Yc dc (.ref k :: As) h n mcc msc Pc) (hd : dc + 1 ≤ d) (h1 : nc + mcc ≤ mc) (h2 : ns + msc ≤ ms)
    (kR : ∀ (v : Option Value) (h' : Nat → et_MC) (n' : Nat), Pc (.inl v) h' n' → et_M sc Y d mc ms Post (pc + 3) lv (v.toList ++ st) h' n' (nc + mcc) (ns + msc))
    (kT : ∀ (x : Nat) (h' : Nat → et_MC) (n' : Nat), Pc (.inr x) h' n' → Y.2.2.2.2 = [] ∧ Post (.inr x) h' n') : et_M sc Y d mc ms Post pc lv stk h n nc ns := by
  intro p l e R s m args below meth c B D dA ls H locs C hP hF hL hl
  subst hst
  obtain ⟨m1, m2, m3, m5, m6, m7, m8, m9, m10⟩ := mf
  obtain ⟨host, hlink⟩ := hlk.use C
  have hcb := et_cb C hP hF hcn hd m7 m1 m2
  rw [m9, m10] at hcb
  have hrun := et_runI (p := p) (e := e) (m := m) (below := below) (meth := meth) (c := c) (locs := locs) (cells := nc) (slots := ns) (host := host) (index := index) (b := B + k) (As := As.map (et_em B)) (rest := st.map (et_em B)) (g := F0 m pc ls ((As.reverse ++ .ref k :: st).map (et_em B))) C.1 C.2.1 C.own hcb hlink (C.hts _ m3) m8 ⟨m5, m6⟩
    rfl (by rw [List.length_map]; exact hlen) (hl.1.trans C.2.2.1.symm) (by show (As.reverse ++ .ref k :: st).map (et_em B) = _; rw [List.map_append, List.map_reverse]; rfl) (by rw [et_sumc]; show 2 * 0 + _ ≤ 8; omega) hdg (by rw [C.rm]; exact ⟨h1, h2⟩)
  exact et_cont C hF hL hl hrun h1 h2 kR kT
end ETR2
