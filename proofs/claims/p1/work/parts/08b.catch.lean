/-! ===== an exception is caught in a caller's own handler; the handler's class may be resolved there for the first time ===== -/
section ETF
variable {E : CtlPost} {e : Env} {d : Bool} {acts : List Action} {s : State} {f : JFrame} {a : Addr} {Q : Handler → Pre}
theorem et_go {x : ExceptionTableEntry} {t : List ExceptionTableEntry} {c : ClassId} {vm' : Vm} {cell : Cell} (hx : covers x f.pc = true) (h0 : x.catchType ≠ 0) (hg : (resolveClass f.method.cls x.catchType).Gives e.toSetting s.vm (.ok c) vm') (hsz : vm'.classes.size ≤ s.vm.classes.size) (hcell : s.heap[a]? = some cell) (hobj : ∀ k, cell.vm ≠ .statics k) (hk : ∃ k, vm'.classes[cell.cls]? = some k) (hc : ∃ k, vm'.classes[c]? = some k) :
    wp (findHandler.go f a (x :: t)) Q E e d acts s ↔ if vm'.assignable cell.cls c = true then Q (.found x.handlerPc) d acts (s.setVm vm') else wp (findHandler.go f a t) Q E e d acts (s.setVm vm') := by
  obtain ⟨ha, ht⟩ := hg.op (op := VmOp.resolveClass f.method.cls x.catchType) rfl
  simp only [covers] at hx
  cases hfit : vm'.assignable cell.cls c <;> simp [findHandler.go, hx, h0, ha, ht, hsz, hcell, hobj, hk, hc, hfit, VmOp.dirties, VmOp.acts]
end ETF
def et_Fn (e : Env) (s : State) (f : JFrame) (a : Addr) (pc : Nat) (vm' : Vm) : Prop :=
  ∀ (Q : Handler → Pre) (E : CtlPost) (d : Bool) (acts : List Action), wp (findHandler f a) Q E e d acts s ↔ Q (.found pc) d acts (s.setVm vm')
theorem et_stepCatch {e : Env} {s : State} {a : Addr} {f : JFrame} {r : List Frame} {pc : Nat} {vm' : Vm} (hfind : et_Fn e s f a pc vm') :
    (stepThrowing e s a (.java f :: r)).Is ((s.setVm vm').setFrames (.java { f with pc := pc, stack := [.ref a] } :: r)) [] := by
  simp only [stepThrowing, searchFrame, vmDo]
  generalize hr : Sem.go _ e false [] s = res
  obtain ⟨as, rfl, ha⟩ := Sem.eq_ok_of hr (a := Handler.found pc) (s' := s.setVm vm') (acts' := []) (by simp [hfind _ _ _ _])
  exact ⟨rfl, ha⟩
section ETF2
variable {tb : Tables} {e : Env} {s target : State} {g : JFrame} {c : Code} {below : List Frame} {a : Addr}
theorem et_caught (h : At s g.method c below) {pc : Nat} {vm' : Vm} (hfind : et_Fn e ((s.setTop g).pushFrame (.throwing a)) g a pc vm') (hrest : Steps tb e below ((s.setVm vm').setTop { g with pc := pc, stack := [.ref a] }) target) :
    Steps tb e below ((s.setTop g).pushFrame (.throwing a)) target := by
  obtain ⟨hgo, hw⟩ := h.throwing a
  refine Steps.head hgo hw ?_
  rw [stepThread_throwing (frames_entered h.top _), (et_stepCatch (s := (s.setTop g).pushFrame (.throwing a)) hfind).1]
  obtain ⟨g₀, hg⟩ := Option.isSome_iff_exists.mp h.top
  obtain ⟨r, hr⟩ := State.topJava?_eq_some.mp hg
  have hr' : (s.setVm vm').frames = .java g₀ :: r := hr
  rw [State.setTop_of_frames _ hr'] at hrest
  rw [State.pushFrame, State.setTop_of_frames _ hr, State.setFrames_setFrames]
  have e1 : ((s.setFrames (.throwing a :: (s.setFrames (.java g :: r)).frames)).setVm vm') = (s.setVm vm').setFrames (.throwing a :: (s.setFrames (.java g :: r)).frames) := rfl
  rw [e1, State.setFrames_setFrames, hr]
  exact hrest
end ETF2
section ETF3
variable {p : Program} {l : Launch} {e : Env} {R : Room} {s : State} {m : MethodId} {args : Array Value} {below : List Frame} {meth : Method} {c : Code} {T : State} {locs : List Loc} {cells slots : Nat}
/-- a class that a handler names, at the tables as they stand: found, and noted -/
theorem et_res (X : Stand p l e R s m args below meth c T locs cells slots) {vm : Vm} (hW : s.WarmedH vm) {own C : String} {index : Nat} (hown : s.vm.findClass own = some m.cls) (hlk : (Cond.classLink own index C).before args s = true) :
    ∃ (c0 : ClassId) (vm' : Vm), s.vm.findClass C = some c0 ∧ (resolveClass m.cls index).Gives e.toSetting vm (.ok c0) vm' ∧ s.WarmedH vm' ∧ vm'.classes.size ≤ vm.classes.size := by
  have hpl : e.platform.magicAccessors = ({} : Platform).magicAccessors := by rw [X.admits.platform]
  obtain ⟨c0, hfc0, hcl⟩ := Cond.classLink_spec hown hlk e.platform hpl
  obtain ⟨hg₁, hwarm₁, -⟩ := State.classEntry (e := e) hW hcl
  exact ⟨c0, _, hfc0, hg₁, hwarm₁, by rw [Vm.size_noted]; exact Nat.le_refl _⟩
theorem et_ents {c : Code} {es : List (Nat × Nat × Nat × Nat)} (h : c.exceptionTable.toList.map (fun h => (h.startPc, h.endPc, h.handlerPc, h.catchType)) = es) : ∃ xs, c.exceptionTable.toList = xs ∧ xs.map (fun h => (h.startPc, h.endPc, h.handlerPc, h.catchType)) = es := ⟨_, rfl, h⟩
theorem et_cls {vm : Vm} {s : State} (hW : s.WarmedH vm) {C : String} {c0 : ClassId} (h : s.vm.findClass C = some c0) : ∃ k, vm.classes[c0]? = some k := by
  have h1 : vm.findClass C = some c0 := by rw [hW.alike.findClass]; exact h
  exact Vm.classAt_of_findClass h1
/-- the first handler takes it -/
theorem et_catch0 (X : Stand p l e R s m args below meth c T locs cells slots) {own C : String} (hown : s.vm.findClass own = some m.cls) {s0 e0 h0 t0 : Nat} {r : List (Nat × Nat × Nat × Nat)} (htab : c.exceptionTable.toList.map (fun h => (h.startPc, h.endPc, h.handlerPc, h.catchType)) = (s0, e0, h0, t0) :: r)
    (hlk : (Cond.classLink own t0 C).before args s = true) (hcast : (Cond.castable C C).before args s = true) (ht0 : t0 ≠ 0) {g : JFrame} (hg : g.method = m) (hcov : s0 ≤ g.pc ∧ g.pc < e0) {a : Addr} {ce : Cell} (hce : T.heap[a]? = some ce) (hst : ce.vm.isStatics = false) (hcls : T.vm.findClass C = some ce.cls) :
    ∃ vm' : Vm, s.WarmedH vm' ∧ ∀ target, Steps p.tables e below ((T.setVm vm').setTop { g with pc := h0, stack := [.ref a] }) target → Steps p.tables e below ((T.setTop g).pushFrame (.throwing a)) target := by
  obtain ⟨c0, vm', hc0, hgv, hW', hsz⟩ := et_res X X.warmed hown hlk
  obtain ⟨c1, c2, k1, k2, k3⟩ := Cond.castable_spec hcast
  cases Option.some.inj (k1.symm.trans hc0)
  cases Option.some.inj (k2.symm.trans hc0)
  have hce0 : ce.cls = c0 := Option.some.inj (hcls.symm.trans ((X.warmed.alike.findClass C none).trans hc0))
  obtain ⟨xs, hxs, hmap⟩ := et_ents htab
  cases xs with
  | nil => cases hmap
  | cons x t =>
    have h1 := (List.cons.inj hmap).1
    simp only [Prod.mk.injEq] at h1
    obtain ⟨i1, i2, i3, i4⟩ := h1
    refine ⟨vm', hW', fun target hrest => et_caught (c := c) (by rw [hg]; exact X.here) (pc := h0) (vm' := vm') ?_ hrest⟩
    intro Q E d acts
    rw [W.findHandler_eq (s := (T.setTop g).pushFrame (.throwing a)) (meth := meth) (code := c) (by rw [hg, throwing_vm]; exact X.method') X.code, hxs]
    rw [et_go (x := x) (t := t) (c := c0) (vm' := vm') (cell := ce) (by simp only [covers, i1, i2]; simp [hcov.1, hcov.2]) (by rw [i4]; exact ht0) (by rw [hg, i4, throwing_vm]; exact hgv) (by rw [throwing_vm]; exact hsz) (by rw [throwing_heap]; exact hce) (VmData.ne_statics_of hst) (by rw [hce0]; exact et_cls hW' hc0) (et_cls hW' hc0)]
    rw [if_pos (by rw [hce0, hW'.alike.assignable]; exact k3), i3]
/-- the second handler takes it, the first being of another class -/
theorem et_catch1 (X : Stand p l e R s m args below meth c T locs cells slots) {own C C' : String} (hown : s.vm.findClass own = some m.cls) {s0 e0 h0 t0 s1 e1 h1 t1 : Nat} {r : List (Nat × Nat × Nat × Nat)} (htab : c.exceptionTable.toList.map (fun h => (h.startPc, h.endPc, h.handlerPc, h.catchType)) = (s0, e0, h0, t0) :: (s1, e1, h1, t1) :: r)
    (hlk0 : (Cond.classLink own t0 C').before args s = true) (hlk : (Cond.classLink own t1 C).before args s = true) (hcast : (Cond.castable C C).before args s = true) (hno : va_Nc C C' s) (ht0 : t0 ≠ 0) (ht1 : t1 ≠ 0) {g : JFrame} (hg : g.method = m) (hcov0 : s0 ≤ g.pc ∧ g.pc < e0) (hcov : s1 ≤ g.pc ∧ g.pc < e1) {a : Addr} {ce : Cell} (hce : T.heap[a]? = some ce) (hst : ce.vm.isStatics = false) (hcls : T.vm.findClass C = some ce.cls) :
    ∃ vm' : Vm, s.WarmedH vm' ∧ ∀ target, Steps p.tables e below ((T.setVm vm').setTop { g with pc := h1, stack := [.ref a] }) target → Steps p.tables e below ((T.setTop g).pushFrame (.throwing a)) target := by
  obtain ⟨cA, vmA, hcA, hgA, hWA, hszA⟩ := et_res X X.warmed hown hlk0
  obtain ⟨c0, vm', hc0, hgv, hW', hsz⟩ := et_res X hWA hown hlk
  obtain ⟨c1, c2, k1, k2, k3⟩ := Cond.castable_spec hcast
  cases Option.some.inj (k1.symm.trans hc0)
  cases Option.some.inj (k2.symm.trans hc0)
  obtain ⟨n1, n2, j1, j2, j3⟩ := hno
  cases Option.some.inj (j1.symm.trans hc0)
  cases Option.some.inj (j2.symm.trans hcA)
  have hce0 : ce.cls = c0 := Option.some.inj (hcls.symm.trans ((X.warmed.alike.findClass C none).trans hc0))
  obtain ⟨xs, hxs, hmap⟩ := et_ents htab
  match xs, hmap with
  | x :: y :: t, hmap =>
    have h2 := (List.cons.inj hmap).1
    have h3 := (List.cons.inj (List.cons.inj hmap).2).1
    simp only [Prod.mk.injEq] at h2 h3
    obtain ⟨i1, i2, i3, i4⟩ := h2
    obtain ⟨y1, y2, y3, y4⟩ := h3
    refine ⟨vm', hW', fun target hrest => et_caught (c := c) (by rw [hg]; exact X.here) (pc := h1) (vm' := vm') ?_ hrest⟩
    intro Q E d acts
    rw [W.findHandler_eq (s := (T.setTop g).pushFrame (.throwing a)) (meth := meth) (code := c) (by rw [hg, throwing_vm]; exact X.method') X.code, hxs]
    rw [et_go (x := x) (t := y :: t) (c := cA) (vm' := vmA) (cell := ce) (by simp only [covers, i1, i2]; simp [hcov0.1, hcov0.2]) (by rw [i4]; exact ht0) (by rw [hg, i4, throwing_vm]; exact hgA) (by rw [throwing_vm]; exact hszA) (by rw [throwing_heap]; exact hce) (VmData.ne_statics_of hst) (by rw [hce0]; exact et_cls hWA hc0) (et_cls hWA hcA)]
    rw [if_neg (by rw [hce0, hWA.alike.assignable, j3]; decide)]
    rw [et_go (s := ((T.setTop g).pushFrame (.throwing a)).setVm vmA) (x := y) (t := t) (c := c0) (vm' := vm') (cell := ce) (by simp only [covers, y1, y2]; simp [hcov.1, hcov.2]) (by rw [y4]; exact ht1) (by rw [hg, y4]; exact hgv) hsz (by show ((T.setTop g).pushFrame (.throwing a)).heap[a]? = _; rw [throwing_heap]; exact hce) (VmData.ne_statics_of hst) (by rw [hce0]; exact et_cls hW' hc0) (et_cls hW' hc0)]
    rw [if_pos (by rw [hce0, hW'.alike.assignable]; exact k3), y3]
    rfl
end ETF3
section ETF4
variable {sc : et_X} {Y : et_Y} {d mc ms : Nat} {Post : et_R → (Nat → et_MC) → Nat → Prop} {pc : Nat} {lv : List (Option Value)} {st : List Value} {h : Nat → et_MC} {n nc ns : Nat}
/-- the handler that takes an exception of the kind x thrown at pc -/
def et_hnd (Y : et_Y) (x pc hpc : Nat) : Prop :=
  (x = 0 ∧ ∃ s0 e0 t0 r, Y.2.2.2.2 = (s0, e0, hpc, t0) :: r ∧ Cond.classLink Y.1.cls t0 (et_exn 0) ∈ et_W ∧ Cond.castable (et_exn 0) (et_exn 0) ∈ et_NST ∧ t0 ≠ 0 ∧ s0 ≤ pc ∧ pc < e0) ∨
  (x = 1 ∧ ∃ s0 e0 h0 t0 s1 e1 t1 r, Y.2.2.2.2 = (s0, e0, h0, t0) :: (s1, e1, hpc, t1) :: r ∧ Cond.classLink Y.1.cls t0 (et_exn 0) ∈ et_W ∧ Cond.classLink Y.1.cls t1 (et_exn 1) ∈ et_W ∧ Cond.castable (et_exn 1) (et_exn 1) ∈ et_NST ∧ t0 ≠ 0 ∧ t1 ≠ 0 ∧ s0 ≤ pc ∧ pc < e0 ∧ s1 ≤ pc ∧ pc < e1)
theorem et_contC {Pc : et_R → (Nat → et_MC) → Nat → Prop} {mcc msc : Nat} {p : Program} {l : Launch} {e : Env} {R : Room} {s : State} {m : MethodId} {args : Array Value} {below : List Frame} {meth : Method} {c : Code} {B : Nat} {D : va_G} {dA : Nat → ClassId} {ls : Array Slot} {H : Heap} {locs : List Loc} {stk : List Value} {aa : Array Value}
    (C : et_C sc Y d mc ms B D dA p l R s m args meth c) (hF : ∀ q : Nat, q < B → H[q]? = s.heap[q]?) (hL : ∀ q ∈ locs, B ≤ q.base) (hl : lv_has ls Y.2.2.1 (et_ll B 0 lv))
    (hr : et_Run p l e R s m args below meth c H locs nc ns mcc msc (F0 m pc ls stk) (st.map (et_em B)) (et_Qc B D dA Pc aa) (fun q => B ≤ q))
    (kR : ∀ (v : Option Value) (h' : Nat → et_MC) (n' : Nat), Pc (.inl v) h' n' → et_M sc Y d mc ms Post (pc + 3) lv (v.toList ++ st) h' n' (nc + mcc) (ns + msc))
    (kT : ∀ (x a : Nat) (h' : Nat → et_MC) (n' : Nat), Pc (.inr x) h' n' → ∃ hpc, et_hnd Y x pc hpc ∧ et_M sc Y d mc ms Post hpc lv [.ref a] h' n' (nc + mcc) (ns + msc)) :
    W p l e R s m args below meth c H locs nc ns (et_Q below (et_Qc B D dA Post) args s mc ms (fun q => B ≤ q)) (F0 m pc ls stk) := by
  intro T hT X
  obtain ⟨o, st₀, t, T', L, h0, X', hL', e1, e2, ⟨⟨r, h', n', hp, hP', hO⟩, hF'⟩, hd⟩ := hr T hT X
  have hFT : ∀ q : Nat, q < B → T'.heap[q]? = s.heap[q]? := fun q hq => by rw [e1, hF' q hq, h0]; exact hF q hq
  have hLL : ∀ q ∈ locs ++ L, B ≤ q.base := fun q hq => by
    rcases List.mem_append.mp hq with h | h
    · exact hL q h
    · exact hL' q h
  cases r with
  | inl v =>
    have hO' : o = .returned (v.map (et_em B)) := hO
    subst hO'
    rcases hd with ⟨v', hv', hst⟩ | ⟨x, hx, -⟩
    · cases hv'
      obtain ⟨t2, a1, b1⟩ := kR v h' n' hp p l e R s m args below meth c B D dA ls T'.heap (locs ++ L) C (by rw [e1]; exact hP') hFT hLL hl T' rfl X'
      refine ⟨t2, hst t2 ?_, b1⟩
      have e9 : (v.toList ++ st).map (et_em B) = (v.map (et_em B)).toList ++ st.map (et_em B) := by cases v <;> rfl
      rw [e9] at a1
      exact a1
    · cases hx
  | inr x =>
    obtain ⟨a, ce, hO1, hO2, hO3, hO4⟩ := hO
    subst hO1
    obtain ⟨hpc, hh, hm⟩ := kT x a h' n' hp
    rcases hd with ⟨v', hv', -⟩ | ⟨x', hx, hst⟩
    · cases hv'
    · cases hx
      have key : ∃ vm' : Vm, s.WarmedH vm' ∧ ∀ target, Steps p.tables e below ((T'.setVm vm').setTop (F0 m hpc ls [.ref (B + a)])) target → Steps p.tables e below ((T'.setTop { F0 m pc ls stk with stack := st.map (et_em B) }).pushFrame (.throwing (B + a))) target := by
        rcases hh with ⟨rfl, s0, e0, t0, r, q1, q2, q3, q4, q5, q6⟩ | ⟨rfl, s0, e0, h0, t0, s1, e1', t1, r, q1, q2, q3, q4, q5, q6, q7, q8, q9, q10⟩
        · exact et_catch0 X' (g := { F0 m pc ls stk with stack := st.map (et_em B) }) C.own (C.tab.trans q1) (C.hts _ q2) (et_nst C.wd q3) q4 rfl ⟨q5, q6⟩ (by rw [e1]; exact hO2) hO4 (by rw [e2]; exact hO3)
        · exact et_catch1 X' (g := { F0 m pc ls stk with stack := st.map (et_em B) }) C.own (C.tab.trans q1) (C.hts _ q2) (C.hts _ q3) (et_nst C.wd q4) C.wd.2.2.2.2.2.2.2.2 q5 q6 rfl ⟨q7, q8⟩ ⟨q9, q10⟩ (by rw [e1]; exact hO2) hO4 (by rw [e2]; exact hO3)
      obtain ⟨vm', hW', step⟩ := key
      obtain ⟨t2, a1, b1⟩ := hm p l e R s m args below meth c B D dA ls T'.heap (locs ++ L) C (by rw [e1]; exact hP') hFT hLL hl (T'.setVm vm') rfl (X'.noted hW')
      exact ⟨t2, hst t2 (step t2 a1), b1⟩
theorem et_invVc {Yc : et_Y} (mf : et_MV Yc) {dc mcc msc : Nat} {Pc : et_R → (Nat → et_MC) → Nat → Prop} {index k ci : Nat} {As stk fs : List Value} {T : u_T} {N : Nat} (hst : stk = As.reverse ++ .ref k :: st) (hdg : decode Y.2.1 pc = .ok (.invokevirtual index, 3)) (hlk : et_lk Y.1.cls index Yc.1) (hlen : (parseMethodDescriptor Yc.1.desc).map (fun d => d.parameters.length) = some As.length) (hh : h k = .inr (ci, fs)) (hc : et_cl[ci]? = some (Yc.1.cls, T, N)) (hsum : (st.map fun v => v.category).sum ≤ 8)
    (hcn : et_Cn sc Yc dc (.ref k :: As) h n mcc msc Pc) (hd : dc + 1 ≤ d) (h1 : nc + mcc ≤ mc) (h2 : ns + msc ≤ ms)
    (kR : ∀ (v : Option Value) (h' : Nat → et_MC) (n' : Nat), Pc (.inl v) h' n' → et_M sc Y d mc ms Post (pc + 3) lv (v.toList ++ st) h' n' (nc + mcc) (ns + msc))
    (kT : ∀ (x a : Nat) (h' : Nat → et_MC) (n' : Nat), Pc (.inr x) h' n' → ∃ hpc, et_hnd Y x pc hpc ∧ et_M sc Y d mc ms Post hpc lv [.ref a] h' n' (nc + mcc) (ns + msc)) : et_M sc Y d mc ms Post pc lv stk h n nc ns := by
  intro p l e R s m args below meth c B D dA ls H locs C hP hF hL hl
  subst hst
  obtain ⟨m1, m2, m3, m4, m5, m6, m7⟩ := mf
  obtain ⟨-, cell, q1, q2, q3, -⟩ := hP.obj hh hc
  obtain ⟨host, hlink⟩ := hlk.use C
  have hrun := et_runV (p := p) (e := e) (m := m) (below := below) (meth := meth) (c := c) (locs := locs) (cells := nc) (slots := ns) (host := host) (C := Yc.1.cls) (index := index) (b := B + k) (As := As.map (et_em B)) (rest := st.map (et_em B)) (g := F0 m pc ls ((As.reverse ++ .ref k :: st).map (et_em B))) C.1 C.2.1 C.own (et_cb C hP hF hcn hd m7 m1 m2) hlink (C.hts _ m3) (C.hts _ m4) ⟨m5, m6⟩
    ⟨cell, q1, by rw [q3]; rfl, by rw [q2]; exact (C.kk.1 ci _ hc).2.1⟩ rfl (by rw [List.length_map]; exact hlen) (hl.1.trans C.2.2.1.symm) (by show (As.reverse ++ .ref k :: st).map (et_em B) = _; rw [List.map_append, List.map_reverse]; rfl) (by rw [et_sumc]; show 2 * 0 + _ ≤ 8; omega) hdg (by rw [C.rm]; exact ⟨h1, h2⟩)
  exact et_contC C hF hL hl hrun kR kT
end ETF4
