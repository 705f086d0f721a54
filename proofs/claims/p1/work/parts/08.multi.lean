/-! ===== an array of rows is made in one step ===== -/
def et_mo (c : ClassId) (N h0 i : Nat) : Cell := arrV c N (fun j => if j < i then .ref (h0 + 1 + j) else .null)
def et_mi (c : ClassId) (M : Nat) : Cell := arrV c M (fun _ => .int 0)
def et_mst (s : State) (c comp : ClassId) (N M : Nat) : Nat → State
  | 0 => s.pushCell (et_mo c N s.heap.size 0)
  | i + 1 => ((et_mst s c comp N M i).pushCell (et_mi comp M)).setCell s.heap.size (et_mo c N s.heap.size (i + 1))
theorem et_mo_set (c : ClassId) (N h0 i : Nat) : (et_mo c N h0 i).setSlot i (.ref (h0 + 1 + i)) = et_mo c N h0 (i + 1) := by
  unfold et_mo
  rw [arrV_store]
  congr 1
  funext j
  by_cases hj : j = i
  · subst hj
    simp [updV]
  · by_cases hlt : j < i
    · simp [updV, hj, hlt, show j < i + 1 by omega]
    · simp [updV, hj, hlt, show ¬ j < i + 1 by omega]
theorem et_mst_facts (s : State) (c comp : ClassId) (N M : Nat) : ∀ i, (et_mst s c comp N M i).heap.size = s.heap.size + 1 + i ∧ (et_mst s c comp N M i).heap[s.heap.size]? = some (et_mo c N s.heap.size i) ∧ (et_mst s c comp N M i).vm = s.vm ∧ (et_mst s c comp N M i).slotsUsed = s.slotsUsed + N + i * M
  | 0 => by
    refine ⟨by simp [et_mst], by simp [et_mst], rfl, ?_⟩
    have e : (et_mo c N s.heap.size 0).slots.size = N := arrV_size _ _ _
    simp [et_mst, e]
  | i + 1 => by
    obtain ⟨h1, h2, h3, h4⟩ := et_mst_facts s c comp N M i
    have hlt : s.heap.size < (et_mst s c comp N M i).heap.size := by omega
    have h5 : ((et_mst s c comp N M i).pushCell (et_mi comp M)).heap[s.heap.size]? = some (et_mo c N s.heap.size i) := by rw [State.heap_pushCell_of_lt (h := hlt)]; exact h2
    have e : (et_mi comp M).slots.size = M := arrV_size _ _ _
    refine ⟨?_, State.heap_setCell_self h5, by simp [et_mst, h3], ?_⟩
    · simp [et_mst, State.setCell, h1]; omega
    · simp [et_mst, h4, e, Nat.succ_mul]; omega
theorem et_mst_top (s : State) (f : JFrame) (c comp : ClassId) (N M : Nat) : ∀ i, et_mst (s.setTop f) c comp N M i = (et_mst s c comp N M i).setTop f
  | 0 => rfl
  | i + 1 => by simp only [et_mst, et_mst_top s f c comp N M i, State.heap_setTop, State.pushCell_setTop, State.setCell_setTop]
theorem et_mst_old (s : State) (c comp : ClassId) (N M : Nat) {a : Addr} (ha : a < s.heap.size) : ∀ i, (et_mst s c comp N M i).heap[a]? = s.heap[a]?
  | 0 => State.heap_pushCell_of_lt _ _ ha
  | i + 1 => by
    have h1 := (et_mst_facts s c comp N M i).1
    have hlt : a < (et_mst s c comp N M i).heap.size := Nat.lt_of_lt_of_le ha (by omega)
    show (((et_mst s c comp N M i).pushCell (et_mi comp M)).setCell s.heap.size _).heap[a]? = _
    rw [State.heap_setCell_other (Nat.ne_of_gt ha), State.heap_pushCell_of_lt (h := hlt)]
    exact et_mst_old s c comp N M ha i
theorem et_mst_row (s : State) (c comp : ClassId) (N M : Nat) : ∀ i j, j < i → (et_mst s c comp N M i).heap[s.heap.size + 1 + j]? = some (et_mi comp M)
  | 0, _, hj => absurd hj (Nat.not_lt_zero _)
  | i + 1, j, hj => by
    have h1 := (et_mst_facts s c comp N M i).1
    show (((et_mst s c comp N M i).pushCell (et_mi comp M)).setCell s.heap.size _).heap[s.heap.size + 1 + j]? = _
    rw [State.heap_setCell_other (show s.heap.size ≠ s.heap.size + 1 + j by omega)]
    by_cases hlt : j < i
    · have h2 : s.heap.size + 1 + j < (et_mst s c comp N M i).heap.size := by omega
      rw [State.heap_pushCell_of_lt (h := h2)]
      exact et_mst_row s c comp N M i j hlt
    · have e : j = i := by omega
      subst e
      rw [← h1]
      exact State.heap_pushCell_size _ _
section ETMW
variable {E : CtlPost} {e : Env} {d : Bool} {acts : List Action} {s : State}
theorem et_wpNew {c comp : ClassId} {k : Class} {type : FieldType} {len : Nat} {init : Value} (hk : s.vm.classes[c]? = some k) (hkind : k.kind = .array comp type) (h1 : ¬ len > e.platform.arrayLengthLimit) (h2 : ¬ len * componentBytes type > e.platform.maxHeapBytes) (h3 : fits type init = true) (h4 : init.isDefault = true)
    {Q : Addr → Pre} (h5 : s.heap.size < e.platform.maxCells) (h6 : s.slotsUsed + len ≤ e.platform.maxSlots) (hq : Q s.heap.size d acts (s.pushCell (arrV c len (fun _ => init)))) : wp (Jvm.newArray c len init) Q E e d acts s := by
  have h7 : ∀ i v, (Array.replicate len init)[i]? = some v → s.fitsSlot c .none i v = true := by
    intro i v hv
    simp only [Array.getElem?_replicate] at hv
    split at hv
    · cases hv; simp [State.fitsSlot, State.slotType?, hk, hkind, h3]
    · cases hv
  have h8 : allocActs (Array.replicate len init) s.heap.size acts = acts := by
    have h9 : ((Array.replicate len init).all (·.isDefault)) = true := by
      rw [Array.all_replicate]; split <;> simp [h4]
    unfold allocActs; rw [if_pos h9]
  rw [← arrV_new] at hq
  simp only [Jvm.newArray, Jvm.arrayFits, wp_bind', W.ask, W.ite, h1, if_false, wp_pure', W.theClass, hk, hkind, h2, W.alloc, W.stop, Option.some.injEq, exists_eq_left', Array.size_replicate, h8]
  rw [if_neg (by omega)]
  exact ⟨h5, h6, h7, hq⟩
theorem et_wpMake {c comp cc : ClassId} {k kc : Class} {n m : Int32} (hk : s.vm.classes[c]? = some k) (hkind : k.kind = .array comp (.array .int)) (hkc : s.vm.classes[comp]? = some kc) (hkindc : kc.kind = .array cc .int) (hn : ¬ n < 0) (hm : ¬ m < 0)
    (h1 : ¬ n.toNatClampNeg > e.platform.arrayLengthLimit) (h2 : ¬ n.toNatClampNeg * componentBytes (.array .int) > e.platform.maxHeapBytes) (h3 : ¬ m.toNatClampNeg > e.platform.arrayLengthLimit) (h4 : ¬ m.toNatClampNeg * componentBytes .int > e.platform.maxHeapBytes)
    (hc : s.heap.size + 1 + n.toNatClampNeg ≤ e.platform.maxCells) (hs : s.slotsUsed + n.toNatClampNeg + n.toNatClampNeg * m.toNatClampNeg ≤ e.platform.maxSlots)
    {Q : Addr → Pre} (hq : ∀ d' acts', Q s.heap.size d' acts' (et_mst s c comp n.toNatClampNeg m.toNatClampNeg n.toNatClampNeg)) : wp (multianewarray.make c [n, m]) Q E e d acts s := by
  have hfind : ([m].find? (· < 0)) = none := by simp [hm]
  rw [multianewarray.make]
  simp only [wp_bind', W.ite, hn, if_false, wp_pure', W.theClass, hk, hkind, Option.some.injEq, exists_eq_left']
  refine et_wpNew hk hkind h1 h2 rfl rfl (by omega) (by have := Nat.zero_le (n.toNatClampNeg * m.toNatClampNeg); omega) ?_
  simp only [hfind]
  rw [ite_self, wp_bind', Std.Legacy.Range.forIn_eq_forIn_range']
  have hsz : ([:n.toNatClampNeg] : Std.Legacy.Range).size = n.toNatClampNeg := by simp [Std.Legacy.Range.size]
  rw [hsz]
  show wp (forIn (List.range' 0 n.toNatClampNeg 1) PUnit.unit _) _ E e d acts _
  refine wp_forIn_inv (fun rest s' => ∃ i, i ≤ n.toNatClampNeg ∧ rest = List.range' i (n.toNatClampNeg - i) ∧ s' = et_mst s c comp n.toNatClampNeg m.toNatClampNeg i) _ _ ⟨0, Nat.zero_le _, rfl, rfl⟩ ?_ ?_
  · rintro x rest s' d' acts' Q' ⟨i, hi, hl, rfl⟩ hnext
    have hlt : i < n.toNatClampNeg := by
      rcases Nat.lt_or_ge i n.toNatClampNeg with h | h
      · exact h
      · rw [show n.toNatClampNeg - i = 0 from by omega] at hl; simp at hl
    obtain ⟨rfl, hrest⟩ : x = i ∧ rest = List.range' (i + 1) (n.toNatClampNeg - (i + 1)) := by
      rw [show n.toNatClampNeg - i = (n.toNatClampNeg - (i + 1)) + 1 from by omega, List.range'_succ] at hl
      exact ⟨(List.cons.inj hl).1, (List.cons.inj hl).2⟩
    obtain ⟨f1, f2, f3, f4⟩ := et_mst_facts s c comp n.toNatClampNeg m.toNatClampNeg x
    have hmul : x * m.toNatClampNeg + m.toNatClampNeg ≤ n.toNatClampNeg * m.toNatClampNeg := by
      rw [← Nat.succ_mul]; exact Nat.mul_le_mul_right _ hlt
    simp only [wp_bind', multianewarray.make, W.ite, hm, if_false, wp_pure', W.theClass, f3, hkc, hkindc, Option.some.injEq, exists_eq_left']
    refine et_wpNew (by rw [f3]; exact hkc) hkindc h3 h4 rfl rfl (by omega) (by omega) ?_
    have hlt0 : s.heap.size < (et_mst s c comp n.toNatClampNeg m.toNatClampNeg x).heap.size := by omega
    have hcell : ((et_mst s c comp n.toNatClampNeg m.toNatClampNeg x).pushCell (et_mi comp m.toNatClampNeg)).heap[s.heap.size]? = some (et_mo c n.toNatClampNeg s.heap.size x) := by rw [State.heap_pushCell_of_lt (h := hlt0)]; exact f2
    simp only [wp_bind', W.writeLoc]
    refine ⟨_, hcell, (fun h => by cases h), (by rw [show (et_mo c n.toNatClampNeg s.heap.size x).slots.size = n.toNatClampNeg from arrV_size _ _ _]; exact hlt), ?_, ?_⟩
    · show State.fitsSlot _ c .none x _ = true
      simp [State.fitsSlot, State.slotType?, f3, hk, hkind, fits]
    · simp only [wp_pure']
      refine hnext _ _ _ ⟨x + 1, hlt, hrest, ?_⟩
      show _ = (((et_mst s c comp n.toNatClampNeg m.toNatClampNeg x).pushCell (et_mi comp m.toNatClampNeg)).setCell s.heap.size (et_mo c n.toNatClampNeg s.heap.size (x + 1)))
      rw [← et_mo_set, f1]
      rfl
  · rintro s' d' acts' ⟨i, hi, hl, rfl⟩
    have e : i = n.toNatClampNeg := by
      rcases Nat.lt_or_ge i n.toNatClampNeg with h | h
      · rw [show n.toNatClampNeg - i = (n.toNatClampNeg - i - 1) + 1 from by omega, List.range'_succ] at hl; cases hl
      · omega
    subst e
    simp only [wp_pure']
    exact hq _ _
end ETMW
section ETMS
variable {p : Program} {l : Launch} {e : Env} {R : Room} {s : State} {m : MethodId} {args : Array Value} {below : List Frame} {meth : Method} {c : Code} {T : State} {locs : List Loc} {cells slots : Nat}
theorem et_mst_stand (X : Stand p l e R s m args below meth c T locs cells slots) (cA comp : ClassId) (N M : Nat) : ∀ i, Stand p l e R s m args below meth c (et_mst T cA comp N M i) (locs ++ (List.range i).map fun j => ⟨T.heap.size, j⟩) (cells + 1 + i) (slots + N + i * M)
  | 0 => by
    have h := X.pushed (et_mo cA N T.heap.size 0)
    rw [show (et_mo cA N T.heap.size 0).slots.size = N from arrV_size _ _ _] at h
    simpa [et_mst] using h
  | i + 1 => by
    have Xi := et_mst_stand X cA comp N M i
    obtain ⟨f1, f2, -, -⟩ := et_mst_facts T cA comp N M i
    have hlt : T.heap.size < (et_mst T cA comp N M i).heap.size := by omega
    have hcell : ((et_mst T cA comp N M i).pushCell (et_mi comp M)).heap[T.heap.size]? = some (et_mo cA N T.heap.size i) := by rw [State.heap_pushCell_of_lt (h := hlt)]; exact f2
    have h := (Xi.pushed (et_mi comp M)).stored hcell i (.ref (T.heap.size + 1 + i))
    rw [show (et_mi comp M).slots.size = M from arrV_size _ _ _, et_mo_set] at h
    have e2 : (locs ++ (List.range (i + 1)).map fun j => (⟨T.heap.size, j⟩ : Loc)) = (locs ++ (List.range i).map fun j => (⟨T.heap.size, j⟩ : Loc)) ++ [⟨T.heap.size, i⟩] := by simp [List.range_succ, List.append_assoc]
    have e3 : slots + N + (i + 1) * M = slots + N + i * M + M := by rw [Nat.succ_mul]; omega
    rw [e2, e3]
    exact h
set_option maxHeartbeats 1000000 in
theorem et_multiS (X : Stand p l e R s m args below meth c T locs cells slots) (hexec : p.tables.exec = Jvm.exec) {own : String} {index : Nat} (hown : s.vm.findClass own = some m.cls) (hlk : (Cond.classLink own index "[[I").before args s = true) {cA comp cc : ClassId} {kA kC : Class} (hA : s.vm.findClass "[[I" = some cA) (hkA : s.vm.classes[cA]? = some kA) (hkindA : kA.kind = .array comp (.array .int)) (hkC : s.vm.classes[comp]? = some kC) (hkindC : kC.kind = .array cc .int)
    {g : JFrame} (hg : g.method = m) (hdg : decode c.code g.pc = .ok (.multianewarray index 2, 4)) {n k : Int32} {rest : List Value} (hstack : g.stack = .int k :: .int n :: rest) (hn : ¬ n < 0) (hk : ¬ k < 0) (hb1 : n.toNatClampNeg ≤ 1000) (hb2 : k.toNatClampNeg ≤ 1000) (hcells : cells + (1 + n.toNatClampNeg) ≤ R.cells) (hslots : slots + (n.toNatClampNeg + n.toNatClampNeg * k.toNatClampNeg) ≤ R.slots) :
    ∃ vm₁ : Vm, s.WarmedH vm₁ ∧ ∀ target, Steps p.tables e below ((et_mst (T.setVm vm₁) cA comp n.toNatClampNeg k.toNatClampNeg n.toNatClampNeg).setTop { g with pc := g.pc + 4, stack := .ref T.heap.size :: rest }) target → Steps p.tables e below (T.setTop g) target := by
  subst hg
  have hpl : e.platform.magicAccessors = ({} : Platform).magicAccessors := by rw [X.admits.platform]
  obtain ⟨c0, hfc0, hcl⟩ := Cond.classLink_spec hown hlk e.platform hpl
  cases hA.symm.trans hfc0
  obtain ⟨hg₁, hwarm₁, hready₁⟩ := State.classEntry (e := e) X.warmed hcl
  generalize T.vm.noted g.method.cls index (.cls cA) = vm₁ at hg₁ hwarm₁ hready₁
  obtain ⟨kA₁, hkA₁, heA⟩ := hwarm₁.alike.2.2 _ _ hkA
  obtain ⟨kC₁, hkC₁, heC⟩ := hwarm₁.alike.2.2 _ _ hkC
  have hkindA₁ : kA₁.kind = .array comp (.array .int) := by rw [heA]; exact hkindA
  have hkindC₁ : kC₁.kind = .array cc .int := by rw [heC]; exact hkindC
  have X₁ := X.noted hwarm₁
  obtain ⟨hr1, hr2⟩ := X.roomAbove hcells hslots
  refine ⟨vm₁, hwarm₁, fun target hrest => ?_⟩
  have hl1 : ¬ n.toNatClampNeg > e.platform.arrayLengthLimit := by rw [Launch.admits_arrayLengthLimit X.admits]; omega
  have hh1 : ¬ n.toNatClampNeg * componentBytes (.array .int) > e.platform.maxHeapBytes := by
    rw [Launch.admits_maxHeapBytes X.admits]; show ¬ n.toNatClampNeg * 4 > 536870912; omega
  have hl2 : ¬ k.toNatClampNeg > e.platform.arrayLengthLimit := by rw [Launch.admits_arrayLengthLimit X.admits]; omega
  have hh2 : ¬ k.toNatClampNeg * componentBytes .int > e.platform.maxHeapBytes := by
    rw [Launch.admits_maxHeapBytes X.admits]; show ¬ k.toNatClampNeg * 4 > 536870912; omega
  jvm_step X.here [hexec, hdg]
  simp only [multianewarray.sem, wp_bind', W.resolveClassAt_links (State.method?_setTop g X.here.top) hg₁]
  rw [W.popN, if_neg (by decide)]
  refine ⟨g, State.topJava?_setTop' (s := T.setVm vm₁) g X.here.top, [.int n, .int k], rest, rfl, hstack, ?_⟩
  simp only [List.mapM_cons, List.mapM_nil, wp_bind', wp_pure']
  refine et_wpMake (k := kA₁) (kc := kC₁) hkA₁ hkindA₁ hkC₁ hkindC₁ hn hk hl1 hh1 hl2 hh2 (by show T.heap.size + 1 + _ ≤ _; omega) (by show T.slotsUsed + _ + _ ≤ _; omega) (fun d' acts' => ?_)
  have XF := et_mst_stand X₁ cA comp n.toNatClampNeg k.toNatClampNeg n.toNatClampNeg
  have eS : ((T.setTop g).setVm vm₁).setTop { g with stack := rest } = (T.setVm vm₁).setTop { g with stack := rest } := by
    show ((T.setVm vm₁).setTop g).setTop _ = _
    rw [State.setTop_setTop]
  rw [eS, et_mst_top]
  simp only [wp_bind', W.mark, W.pushRef, State.topJava?_setTop' _ XF.here.top, Option.some.injEq, exists_eq_left', State.setTop_setTop, State.heap_setTop]
  intro acts
  simp [jvm, XF.here.top]
  exact hrest
end ETMS
section ETMR
variable {sc : et_X} {Y : et_Y} {d mc ms : Nat} {Post : et_R → (Nat → et_MC) → Nat → Prop} {pc : Nat} {lv : List (Option Value)} {st : List Value} {h : Nat → et_MC} {n nc ns : Nat}
/-- the cells that stand behind it -/
def et_mh (h : Nat → et_MC) (n N M : Nat) : Nat → et_MC := fun j => if j < n then h j else if j = n then .inl (4, N, .inr (.inr (.inr (.inr (fun i => if i < N then some (n + 1 + i) else none))))) else if j < n + 1 + N then .inl (0, M, .inl (fun _ => 0)) else et_void
theorem et_multi {index : Nat} {x z : Int32} {N M : Nat} (hdg : decode Y.2.1 pc = .ok (.multianewarray index 2, 4)) (hlk : Cond.classLink Y.1.cls index "[[I" ∈ et_W) (hx : ¬ x < 0) (hN : x.toNatClampNeg = N) (hz : ¬ z < 0) (hM : z.toNatClampNeg = M) (hb1 : N ≤ 1000) (hb2 : M ≤ 1000) (h1 : nc + (1 + N) ≤ mc) (h2 : ns + (N + N * M) ≤ ms)
    (kk : et_M sc Y d mc ms Post (pc + 4) lv (.ref n :: st) (et_mh h n N M) (n + (1 + N)) (nc + (1 + N)) (ns + (N + N * M))) : et_M sc Y d mc ms Post pc lv (.int z :: .int x :: st) h n nc ns := by
  intro p l e R s m args below meth c B D dA ls H locs C hP hF hL hl T hT X
  subst hN; subst hM
  obtain ⟨-, -, ⟨kA, hkA, hkindA⟩, -⟩ := C.wd.2.2.2.2.2
  have hnA : s.vm.findClass "[[I" = some (dA 4) := (C.kk.2 4 _ rfl).2
  obtain ⟨-, kC, hkC, cc, hkindC⟩ := (C.kk.2 0 _ rfl).1 0 (fun _ => .null)
  obtain ⟨vm₁, hW, step⟩ := et_multiS X C.1 C.own (C.hts _ hlk) hnA hkA hkindA hkC hkindC (g := F0 m pc ls (.int z :: .int x :: st.map (et_em B))) rfl (by rw [C.2.1]; exact hdg) (rest := st.map (et_em B)) rfl hx hz hb1 hb2 (by rw [C.rm]; exact h1) (by rw [C.rm]; exact h2)
  have X1 := et_mst_stand (X.noted hW) (dA 4) (dA 0) x.toNatClampNeg z.toNatClampNeg x.toNatClampNeg
  have f1 := (et_mst_facts (T.setVm vm₁) (dA 4) (dA 0) x.toNatClampNeg z.toNatClampNeg x.toNatClampNeg).1
  have f2 := (et_mst_facts (T.setVm vm₁) (dA 4) (dA 0) x.toNatClampNeg z.toNatClampNeg x.toNatClampNeg).2.1
  have f3 := et_mst_row (T.setVm vm₁) (dA 4) (dA 0) x.toNatClampNeg z.toNatClampNeg x.toNatClampNeg
  have hTs : T.heap.size = B + n := by rw [hT]; exact hP.1
  have hsz : (T.setVm vm₁).heap.size = B + n := hTs
  have hold : ∀ q : Nat, q < B + n → (et_mst (T.setVm vm₁) (dA 4) (dA 0) x.toNatClampNeg z.toNatClampNeg x.toNatClampNeg).heap[q]? = H[q]? := fun q hq => by
    rw [et_mst_old _ _ _ _ _ (by rw [hsz]; exact hq)]
    show T.heap[q]? = _
    rw [hT]
  rw [hsz] at f1 f2 f3
  rw [Nat.add_assoc nc, Nat.add_assoc ns] at X1
  have hP' : et_HP D dA B (et_mh h n x.toNatClampNeg z.toNatClampNeg) (n + (1 + x.toNatClampNeg)) (et_mst (T.setVm vm₁) (dA 4) (dA 0) x.toNatClampNeg z.toNatClampNeg x.toNatClampNeg).heap := by
    refine ⟨by rw [f1]; omega, fun j => ?_⟩
    by_cases c1 : j < n
    · have e : et_mh h n x.toNatClampNeg z.toNatClampNeg j = h j := by simp [et_mh, c1]
      rw [e]
      rcases hP.2 j with h0 | ⟨-, h9⟩
      · exact Or.inl h0
      · exact Or.inr ⟨by omega, h9.kept (hold _ (by omega))⟩
    · by_cases c2 : j = n
      · subst c2
        have e : et_mh h j x.toNatClampNeg z.toNatClampNeg j = .inl (4, x.toNatClampNeg, .inr (.inr (.inr (.inr (fun i => if i < x.toNatClampNeg then some (j + 1 + i) else none))))) := by simp [et_mh]
        rw [e]
        refine Or.inr ⟨by omega, ?_⟩
        show _ = some (arrV (dA 4) x.toNatClampNeg (fun i => va_rf ((if i < x.toNatClampNeg then some (j + 1 + i) else none).map (fun k => B + k))))
        rw [f2]
        unfold et_mo
        congr 2
        funext i
        by_cases c3 : i < x.toNatClampNeg
        · rw [if_pos c3, if_pos c3]
          exact congrArg Value.ref (show (B + j + 1 + i : Nat) = B + (j + 1 + i) by omega)
        · simp [c3, va_rf]
      · by_cases c3 : j < n + 1 + x.toNatClampNeg
        · have e : et_mh h n x.toNatClampNeg z.toNatClampNeg j = .inl (0, z.toNatClampNeg, .inl (fun _ => 0)) := by simp [et_mh, c1, c2, c3]
          rw [e]
          refine Or.inr ⟨by omega, ?_⟩
          show _ = some (arrV (dA 0) z.toNatClampNeg (fun _ => .int 0))
          have h9 := f3 (j - n - 1) (by omega)
          rw [show B + n + 1 + (j - n - 1) = B + j by omega] at h9
          exact h9
        · exact Or.inl (by simp [et_mh, c1, c2, c3])
  obtain ⟨t, a1, b1⟩ := kk p l e R s m args below meth c B D dA ls _ _ C hP' (fun q hq => (hold q (by omega)).trans (hF q hq)) (fun q hq => by
      rcases List.mem_append.mp hq with h9 | h9
      · exact hL q h9
      · obtain ⟨y, -, hy⟩ := List.mem_map.mp h9
        rw [← hy]
        show B ≤ (T.setVm vm₁).heap.size
        rw [hsz]; exact Nat.le_add_right B n) hl _ rfl X1
  rw [hTs] at step
  exact ⟨t, step t a1, b1⟩
end ETMR
