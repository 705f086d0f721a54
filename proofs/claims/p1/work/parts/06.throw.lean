section ETT
variable {p : Program} {l : Launch} {e : Env} {R : Room} {s : State} {m : MethodId} {args : Array Value} {below : List Frame} {meth : Method} {c : Code} {T : State} {locs : List Loc} {cells slots : Nat}
set_option maxHeartbeats 2000000 in
/-- new X("..") is thrown: the new cell alone has changed -/
theorem et_ctor (X : Stand p l e R s m args below meth c T locs cells slots) (hexec : p.tables.exec = Jvm.exec) (htr : e.platform.stackTraces = false) {own cls : String} {names : List String} {ic : Nat}
    (hown : s.vm.findClass own = some m.cls) (hcls : Bundle.fit cls = true) (hnames : ∀ q ∈ names, Bundle.fit q = true) (hA : ∀ w ∈ Bundle.ownAtoms own ic cls names, w.before args s = true)
    {B : Nat} (hF : ∀ q : Nat, q < B → T.heap[q]? = s.heap[q]?) (hst : et_stF B s "UNASSIGNED_STACK" "[Ljava/lang/StackTraceElement;")
    {a : Addr} (ha : B ≤ a) {cX : ClassId} {kX : Class} (hf : s.vm.findClass cls = some cX) (hk : s.vm.classes[cX]? = some kX) (hcell : T.heap[a]? = some (freshCell cX kX)) {msg : Value} (hmsg : msg.isRef = true)
    {g : JFrame} (hg : g.method = m) (hsize : g.locals.size = c.maxLocals) (hlocked : g.locked = none) (hentered : g.entered = []) {rest : List Value} (hstack : g.stack = msg :: .ref a :: .ref a :: rest)
    (hd1 : decode c.code g.pc = .ok (.invokespecial ic, 3)) (hd2 : decode c.code (g.pc + 3) = .ok (.athrow, 1)) (hout : ∀ x ∈ c.exceptionTable.toList, covers x (g.pc + 3) = false)
    (hRf : names.length + 3 < R.frames) (hRl : 2 * g.monitorRoom + ((Value.ref a :: rest).map fun v => v.category).sum + (13 * (names.length + 1) + 42) ≤ R.locals) (hlocks : meth.locks = false) :
    ∃ (T' : State) (ce : Cell) (L : List Loc), (∀ q ∈ L, q.base = a) ∧ T'.heap.size = T.heap.size ∧ (∀ q : Nat, q ≠ a → T'.heap[q]? = T.heap[q]?) ∧ T'.heap[a]? = some ce ∧ ce.cls = cX ∧ ce.vm.isStatics = false ∧
      Steps p.tables e below (T.setTop g) (T'.setFrames (.throwing a :: below)) ∧ (T'.setFrames (.throwing a :: below)).status = .running ∧ Ended (T'.setFrames (.throwing a :: below)) below (.threw a) ∧ s.WarmedH (T'.setFrames (.throwing a :: below)).vm ∧
      s.sameButNew ({ T'.setFrames (.throwing a :: below) with vm := s.vm } : State) (locs ++ L) cells slots := by
  have hpl : e.platform.magicAccessors = ({} : Platform).magicAccessors := by rw [X.admits.platform]
  have w : ∀ x, x ∈ Bundle.ownAtoms own ic cls names → x.holds args s none s [] = true := fun x hx => hA x hx
  obtain ⟨TC, Z0, L, -, Ty⟩ := ThrowableC.of_atoms (args := args) (s := s) (pl := e.platform) (by rw [X.admits.platform]) (by rw [X.admits.platform]) hpl (fun x hx => hA x (by simp [Bundle.ownAtoms, hx]))
  obtain ⟨Z, M, LZ, LM, hnZ⟩ := Init0T.ofS_atoms (args := args) hpl L Ty (fun x hx => hA x (by simp [Bundle.ownAtoms, hx]))
  obtain ⟨P1, Ps, hlen, L1, hL, hP1m, hlink1, hlink⟩ := Bundle.chainS (args := args) hpl hnZ names cls hcls hnames (fun x hx => hA x (by simp [Bundle.ownAtoms, hx]))
  have hP1 : P1.m.cls = cX := Option.some.inj ((findClass_of_methodNamed hP1m).symm.trans hf)
  subst hP1
  obtain ⟨c1, kX', hc1, hk', hord, -, -, hn6⟩ := Cond.instantiable_spec (w (.instantiable cls 6) (by simp [Bundle.ownAtoms]))
  cases Option.some.inj (hc1.symm.trans hf)
  cases Option.some.inj (hk.symm.trans hk')
  have sel : ∀ y, y = Bundle.tFill0 ∨ y = Bundle.tFill → ∀ mk, s.methodNamed? y = some mk → selectMethod e.platform s.vm P1.m.cls mk = .method mk := by
    intro y hy mk hmk
    have hy2 : (Cond.selects cls y y).holds args s none s [] = true := by
      rcases hy with rfl | rfl <;> exact w _ (by simp [Bundle.ownAtoms])
    have hy3 : y.cls ≠ "java/lang/invoke/MethodHandle" ∧ y.cls ≠ "java/lang/invoke/VarHandle" := by
      rcases hy with rfl | rfl <;> decide
    obtain ⟨c2, r2, m2, q1, q2, q3, q4, -⟩ := Cond.selects_spec hy2
    cases Option.some.inj (q1.symm.trans hf)
    cases Option.some.inj (q2.symm.trans (State.methodFound?_of_named hmk hy3))
    cases Option.some.inj (q3.symm.trans hmk)
    rw [Launch.admits_selectMethod X.admits]; exact q4
  have hsel0 := sel _ (Or.inl rfl) _ Ty.fill0
  have hselF := sel _ (Or.inr rfl) _ Ty.fill
  obtain ⟨cS, hcS, hiss⟩ := Ty.statics
  obtain ⟨u0, hu0⟩ := Cond.staticRefV Ty.unassigned L.unassignedStatic L.statics hcS hiss (w (.isRef (.static Bundle.tN "UNASSIGNED_STACK" Bundle.steD)) (by simp [Bundle.ownAtoms]))
  obtain ⟨sen, hsen⟩ := Cond.staticRefV Ty.sentinel L.sentinelStatic L.statics hcS hiss (w (.isRef (.static Bundle.tN "SUPPRESSED_SENTINEL" Bundle.listD)) (by simp [Bundle.ownAtoms]))
  have haS : TC.aS < B := by
    obtain ⟨c9, k9, i9, f9, a9, cell9, v9, h1, h2, h3, h4, h5, -⟩ := hst
    have e9 := Option.some.inj (h2.symm.trans Ty.unassigned)
    simp only [Prod.mk.injEq] at e9
    obtain ⟨-, rfl, -, -⟩ := e9
    have := h4.symm.trans L.statics
    cases this
    exact h5
  have hcS' : T.heap[TC.aS]? = some cS := by rw [hF _ haS]; exact hcS
  have hne : TC.aS ≠ a := Nat.ne_of_lt (Nat.lt_of_lt_of_le haS ha)
  have hunk : cS.vm ≠ .unknown := fun h => by rw [h] at hiss; cases hiss
  obtain ⟨ci198, i198, fB, hk198, hg198, ha198, hsB, -, hnB, htB, hffB⟩ := Cond.ownField (t := .object "java/lang/Object") Ty.found L.cls (by decide +kernel) (w (.fieldLink Bundle.tN 198 Bundle.tN "backtrace" "Ljava/lang/Object;") (by simp [Bundle.ownAtoms])) (w (.lays Bundle.tN Bundle.tN "backtrace" "Ljava/lang/Object;") (by simp [Bundle.ownAtoms])) e.platform hpl
  obtain ⟨iM, hffM⟩ := Ty.msg
  obtain ⟨tyC, dC, hdC, hdnC⟩ := Cond.laysAt hf hk Ty.cause (w (.lays cls Bundle.tN "cause" "Ljava/lang/Throwable;") (by simp [Bundle.ownAtoms]))
  obtain ⟨tyS, dS, hdS, hdnS⟩ := Cond.laysAt hf hk Ty.stack (w (.lays cls Bundle.tN "stackTrace" Bundle.steD) (by simp [Bundle.ownAtoms]))
  obtain ⟨tyP, dP, hdP, hdnP⟩ := Cond.laysAt hf hk Ty.supp (w (.lays cls Bundle.tN "suppressedExceptions" Bundle.listD) (by simp [Bundle.ownAtoms]))
  obtain ⟨tyM, dM, hdM, hdnM⟩ := Cond.laysAt hf hk hffM (w (.lays cls Bundle.tN "detailMessage" "Ljava/lang/String;") (by simp [Bundle.ownAtoms]))
  obtain ⟨tyB, dB, hdB, hdnB⟩ := Cond.laysAt hf hk hffB (w (.lays cls Bundle.tN "backtrace" "Ljava/lang/Object;") (by simp [Bundle.ownAtoms]))
  have bC := Cond.laysApart hdB hdC hdnB hdnC (by rw [hnB, Ty.causeName]; decide)
  have bS := Cond.laysApart hdB hdS hdnB hdnS (by rw [hnB, Ty.stackName]; decide)
  have bP := Cond.laysApart hdB hdP hdnB hdnP (by rw [hnB, Ty.suppName]; decide)
  have hskip : SkipFacts TC e.platform s (fun u => u) u0 ((preparedCellV TC.toThrowableT (freshCell P1.m.cls kX) a u0 sen).withEntry T.cur) := by
    refine ⟨{ ci198 := ci198, i198 := i198, fBack := fB }, ⟨hk198, hg198, ha198, hsB⟩, ?_, fun _ _ => rfl⟩
    have h9 := fresh_default (c := P1.m.cls) tyB
    rw [htB] at h9
    simpa [preparedCellV, Cell.setSlot, Cell.withEntry, Array.getElem?_setIfInBounds, bC, bS, bP, bC.symm, bS.symm, bP.symm, defaultValue] using h9
  obtain ⟨tm, methC, cdC, kC, vm₁, hnC, -, -, -, -, -, -, -, hW₁, st1⟩ := Steps.initColdS (tb := p.tables) (e := e) (below := below) (s := s) (U := T) X.here hexec X.warmed hpl hown (t := Bundle.initS cls) rfl rfl (Bundle.fit_spec hcls).2
    (w (.methodLink own ic (Bundle.initS cls)) (by simp [Bundle.ownAtoms])) (hA (.instanceMethod (Bundle.initS cls)) (by cases names <;> simp [Bundle.ownAtoms, Bundle.chainSAtoms, Bundle.passSAtoms])) (bytes := Bundle.six) (maxL := 2) (hA (.code (Bundle.initS cls) Bundle.six 2 none) (by cases names <;> simp [Bundle.ownAtoms, Bundle.chainSAtoms, Bundle.passSAtoms]))
    (f := g) hg (a := a) (msg := msg) (rest := .ref a :: rest) hstack hd1
  cases Option.some.inj (hnC.symm.trans hP1m)
  obtain ⟨vm₂, X₂, st2⟩ := (X.noted hW₁).ctorMessageOffV hexec (g := { g with stack := .ref a :: rest }) hg hsize TC L Z LZ M LM (P1 :: Ps)
    (fun P hP => by rcases List.mem_cons.mp hP with rfl | hP; exact L1; exact hL P hP) ⟨hlink1, hlink⟩ (u0 := u0) (sen := sen) (self := a) hmsg (cell := freshCell P1.m.cls kX) (cellS := cS)
    hcell (fun _ => by simp) (by simp) rfl rfl hsel0 hselF hcS' hne hunk hu0 hsen
    (Takes.of_laid hk hord tyC (by rw [Ty.causeType]; rfl)) (Takes.of_laid hk hord tyS (by rw [Ty.stackType]; exact fits_refV_array _ u0)) (Takes.of_laid hk hord tyP (by rw [Ty.suppType]; exact fits_refV_object _ sen))
    (Takes.of_laid hk hord tyM (by rw [Ty.msgType]; exact fits_refV_object _ ⟨msg, hmsg⟩)) Ty.objLocals hskip htr [] hd1
    (by simp only [List.length_cons, hlen]; omega) (by simp only [List.length_cons, hlen]; exact hRl)
  obtain ⟨hwalk, hrun, hended, hWU, hsame⟩ := X₂.athrowLeaves hexec (g := { g with stack := .ref a :: rest, pc := g.pc + 3 }) hg hlocked hentered hout (a := a) (rest := rest) rfl hd2 (hlocks := hlocks)
  have hlt : a < ((T.setVm vm₁).setVm vm₂).heap.size := (Array.getElem?_eq_some_iff.mp hcell).1
  refine ⟨_, _, _, ?_, ?_, ?_, heapAt_setCell_self _ hlt, rfl, rfl, st1 _ (fun acts => ?_), hrun, hended, hWU, hsame⟩
  · intro q hq
    simp only [List.mem_cons, List.not_mem_nil, or_false] at hq
    rcases hq with rfl | rfl | rfl | rfl | rfl <;> rfl
  · rw [size_setCell]; rfl
  · intro q hq
    rw [heapAt_setCell_ne _ (Ne.symm hq)]; rfl
  · rw [doInvoke_state]
    exact st2 _ hwalk
end ETT
section ETT2
variable {sc : et_X} {Y : et_Y} {d mc ms : Nat} {Post : et_R → (Nat → et_MC) → Nat → Prop} {pc : Nat} {lv : List (Option Value)} {st : List Value} {h : Nat → et_MC} {n nc ns : Nat}
theorem et_nst {B : Nat} {D : va_G} {dA : Nat → ClassId} {s : State} {args : Array Value} (h : et_Wd sc B D dA s) {w : Cond} (hw : w ∈ et_NST) : w.before args s = true := by
  have h7 := h.2.1 w hw
  have h8 := et_NST_ok w hw
  cases w <;> first | exact va_Nw.use rfl h7 | exact absurd h8 (by simp [et_isN])
/-- the words of the tables that a throw needs; the two of the heap beside them -/
def et_thr (own : String) (ic : Nat) (X : String) : Prop := ∀ w ∈ Bundle.ownAtoms own ic X ["java/lang/RuntimeException", "java/lang/Exception"], w ∈ et_W ∨ w ∈ et_SW ∨ w ∈ et_NST
theorem et_SW_of {B : Nat} {s : State} {args : Array Value} (h1 : et_stF B s "UNASSIGNED_STACK" "[Ljava/lang/StackTraceElement;") (h2 : et_stF B s "SUPPRESSED_SENTINEL" "Ljava/util/List;") : ∀ w ∈ et_SW, w.before args s = true := by
  have key : ∀ nm d, et_stF B s nm d → (Cond.laysStatic "java/lang/Throwable" nm d).before args s = true ∧ (Cond.isRef (.static "java/lang/Throwable" nm d)).before args s = true := by
    intro nm d hq
    obtain ⟨c, k, i, f, a, cell, v, h1, h2, h3, h4, h5, h6, h7, h8, h9, h10, h11, h12⟩ := hq
    constructor
    · simp [Cond.before, Cond.holds, Cond.value, h1, h2, h3, h4, h6, h7, h8, h9, h10]
    · cases v <;> first | (cases h12; done) | simp [Cond.before, Cond.holds, Cond.value, Term.eval, State.fieldNamed?, h2, h3, h4, h6, h7, h11]
  intro w hw
  simp only [et_SW, List.mem_cons, List.not_mem_nil, or_false] at hw
  rcases hw with rfl | rfl | rfl | rfl
  · exact (key _ _ h1).1
  · exact (key _ _ h1).2
  · exact (key _ _ h2).1
  · exact (key _ _ h2).2
set_option maxHeartbeats 2000000 in
theorem et_throw {ix kx ic x : Nat} (tx : String) (hd0 : decode Y.2.1 pc = .ok (.new ix, 3)) (hd1 : decode Y.2.1 (pc + 3) = .ok (.dup, 1)) (hd2 : decode Y.2.1 (pc + 3 + 1) = .ok (.ldc kx, 2)) (hd3 : decode Y.2.1 (pc + 3 + 1 + 2) = .ok (.invokespecial ic, 3)) (hd4 : decode Y.2.1 (pc + 3 + 1 + 2 + 3) = .ok (.athrow, 1))
    (hstr : (Y.1.cls, kx, tx) ∈ et_STR) (hlk : Cond.classLink Y.1.cls ix (et_exn x) ∈ et_W) (hini : Cond.initialized (et_exn x) ∈ et_W) (hins : Cond.instantiable (et_exn x) 6 ∈ et_W) (hthr : et_thr Y.1.cls ic (et_exn x)) (hfit : Bundle.fit (et_exn x) = true) (hhh : Y.2.2.2.2 = []) (hsum : (st.map fun v => v.category).sum ≤ 8) (h1 : nc + 1 ≤ mc) (h2 : ns + 6 ≤ ms)
    (hp : Post (.inr x) (va_up h n et_void) (n + 1)) : et_M sc Y d mc ms Post pc lv st h n nc ns := by
  intro p l e R s m args below meth c B D dA ls H locs C hP hF hL hl
  obtain ⟨cX, kX, hfX, hkX, -⟩ := Cond.instantiable_spec (C.hts _ hins)
  refine W.newcK C.1 C.2.1 C.own (C.hts _ hlk) (C.hts _ hins) (C.hts _ hini) rfl hd0 (by rw [C.rm]; exact h1) (by rw [C.rm]; exact h2) hfX hP.1 fun H1 kC hkC e1 z1 o1 => ?_
  cases hkX.symm.trans hkC
  refine lv_dup (va := .ref (B + n)) (rest := st.map (et_em B)) C.1 C.2.1 hd1 rfl ?_
  obtain ⟨q, hq⟩ := C.wd.2.2.2.1 _ hstr
  refine va_ldcS C.1 C.2.1 C.own hq hd2 ?_
  intro T hT X
  have hnil : c.exceptionTable.toList = [] := by
    have := C.tab
    rw [hhh] at this
    simpa using this
  have hFT : ∀ q : Nat, q < B → T.heap[q]? = s.heap[q]? := fun q hq => by rw [hT, o1 q (by omega)]; exact hF q hq
  obtain ⟨T', ce, L, g1, g2, g3, g4, g5, g6, g7, g8, g9, g10, g11⟩ := et_ctor X C.1 (C.la e X.admits) (own := Y.1.cls) (cls := et_exn x) (names := ["java/lang/RuntimeException", "java/lang/Exception"]) (ic := ic) C.own hfit (by decide)
    (fun w hw => (hthr w hw).elim (fun z => C.hts _ z) (fun z => z.elim (fun z => et_SW_of C.wd.2.2.1.1 C.wd.2.2.1.2 w z) (fun z => et_nst C.wd z))) (B := B) hFT C.wd.2.2.1.1 (a := B + n) (Nat.le_add_right B n) hfX hkX (by rw [hT]; exact e1) (msg := .ref q) rfl
    (g := F0 m (pc + 3 + 1 + 2) ls (.ref q :: .ref (B + n) :: .ref (B + n) :: st.map (et_em B))) rfl (hl.1.trans C.2.2.1.symm) rfl rfl (rest := st.map (et_em B)) rfl (by rw [C.2.1]; exact hd3) (by rw [C.2.1]; exact hd4) (fun x hx => by rw [hnil] at hx; cases hx)
    (by rw [C.rm]; show 2 + 3 < 8 + d; omega) (by rw [C.rm, List.map_cons, List.sum_cons, et_sumc]; show 2 * 0 + (1 + _) + (13 * (2 + 1) + 42) ≤ 120 + 90 * d; omega) C.locks
  have X9 := g11.mono h1 h2
  refine ⟨_, g7, .threw (B + n), g8, g9, ⟨⟨.inr x, va_up h n et_void, n + 1, hp, ?_, n, ce, rfl, g4, ?_, g6⟩, fun q hq => ?_⟩, g10, locs ++ L, X9, fun q hq => ?_⟩
  · show et_HP D dA B (va_up h n et_void) (n + 1) T'.heap
    refine hP.push (Or.inl rfl) (by rw [g2, hT, z1, hP.1]) (fun q hq => ?_)
    rw [hP.1] at hq
    rw [g3 q (by omega), hT]
    exact o1 q hq
  · have := g10.alike.findClass (et_exn x)
    show T'.vm.findClass _ = _
    rw [g5, ← hfX]
    exact this none
  · show T'.heap[q]? = _
    rw [g3 q (by omega)]
    exact hFT q hq
  · rcases List.mem_append.mp hq with h9 | h9
    · exact hL q h9
    · rw [g1 q h9]; exact Nat.le_add_right B n
end ETT2
