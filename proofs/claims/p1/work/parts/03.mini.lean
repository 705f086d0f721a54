/-! ===== the small machine: cells by numbers from 0 on; a reference k stands for the address B + k ===== -/
abbrev et_MC : Type := (Nat × vp_A) ⊕ (Nat × List Value)
abbrev et_R : Type := Option Value ⊕ Nat
/-- the script: its address, its length, what it holds -/
abbrev et_X : Type := Nat × Nat × (Nat → Int32)
abbrev et_Y : Type := MethodName × ByteArray × Nat × Option FieldType × List (Nat × Nat × Nat × Nat)
def et_em (B : Nat) (v : Value) : Value := match v with
  | .ref a => .ref (B + a)
  | .int x => .int x
  | .long x => .long x
  | .float x => .float x
  | .double x => .double x
  | .null => .null
  | .retAddr x => .ref x
def et_ea (B : Nat) (a : vp_A) : vp_A := (a.1, match a.2 with
  | .inl f => .inl f
  | .inr (.inl f) => .inr (.inl f)
  | .inr (.inr (.inl f)) => .inr (.inr (.inl f))
  | .inr (.inr (.inr (.inl f))) => .inr (.inr (.inr (.inl f)))
  | .inr (.inr (.inr (.inr f))) => .inr (.inr (.inr (.inr (fun j => (f j).map (fun k => B + k))))))
def et_void : et_MC := .inr (1000, [])
theorem et_em_cat (B : Nat) (v : Value) : (et_em B v).category = v.category := by cases v <;> rfl
def et_at (D : va_G) (dA : Nat → ClassId) (B q : Nat) (x : et_MC) (H : Heap) : Prop := match x with
  | .inl a => H[q]? = some (vp_cell (dA a.1) (et_ea B a.2))
  | .inr o => ∃ r : vw_C, et_cl[o.1]? = some r ∧ t_OB q (D.1 o.1) r.2.2 (D.2 o.1) H (vp_V (o.2.map (et_em B)))
def et_HP (D : va_G) (dA : Nat → ClassId) (B : Nat) (h : Nat → et_MC) (n : Nat) (H : Heap) : Prop := H.size = B + n ∧ ∀ k, h k = et_void ∨ (k < n ∧ et_at D dA B (B + k) (h k) H)
theorem et_at.kept {D : va_G} {dA : Nat → ClassId} {B q : Nat} {x : et_MC} {H H1 : Heap} (h : et_at D dA B q x H) (hq : H1[q]? = H[q]?) : et_at D dA B q x H1 := by
  cases x with
  | inl a => exact hq.trans h
  | inr o =>
    obtain ⟨r, h1, h2⟩ := h
    exact ⟨r, h1, h2.kept hq⟩
theorem et_HP.put {D : va_G} {dA : Nat → ClassId} {B n k : Nat} {h : Nat → et_MC} {x : et_MC} {H H1 : Heap} (hP : et_HP D dA B h n H) (hk : k < n) (hx : et_at D dA B (B + k) x H1) (z : H1.size = H.size) (oq : ∀ q : Nat, q ≠ B + k → H1[q]? = H[q]?) : et_HP D dA B (va_up h k x) n H1 := by
  refine ⟨z.trans hP.1, fun j => ?_⟩
  by_cases hj : j = k
  · subst hj
    refine Or.inr ⟨hk, ?_⟩
    simpa [va_up] using hx
  · have e : va_up h k x j = h j := by simp [va_up, hj]
    rw [e]
    rcases hP.2 j with h0 | ⟨h1, h2⟩
    · exact Or.inl h0
    · exact Or.inr ⟨h1, h2.kept (oq _ (by omega))⟩
theorem et_HP.push {D : va_G} {dA : Nat → ClassId} {B n : Nat} {h : Nat → et_MC} {x : et_MC} {H H1 : Heap} (hP : et_HP D dA B h n H) (hx : x = et_void ∨ et_at D dA B (B + n) x H1) (z : H1.size = H.size + 1) (oq : ∀ q : Nat, q < H.size → H1[q]? = H[q]?) : et_HP D dA B (va_up h n x) (n + 1) H1 := by
  refine ⟨by rw [z, hP.1]; omega, fun j => ?_⟩
  by_cases hj : j = n
  · subst hj
    have e : va_up h j x j = x := by simp [va_up]
    rw [e]
    rcases hx with hx | hx
    · exact Or.inl hx
    · exact Or.inr ⟨by omega, hx⟩
  · have e : va_up h n x j = h j := by simp [va_up, hj]
    rw [e]
    rcases hP.2 j with h0 | ⟨h1, h2⟩
    · exact Or.inl h0
    · exact Or.inr ⟨by omega, h2.kept (oq _ (by rw [hP.1]; omega))⟩
theorem et_HP.arr {D : va_G} {dA : Nat → ClassId} {B n k : Nat} {h : Nat → et_MC} {H : Heap} {a : Nat × vp_A} (hP : et_HP D dA B h n H) (hh : h k = .inl a) : k < n ∧ H[B + k]? = some (vp_cell (dA a.1) (et_ea B a.2)) := by
  rcases hP.2 k with h0 | ⟨h1, h2⟩
  · rw [hh] at h0
    cases h0
  · rw [hh] at h2
    exact ⟨h1, h2⟩
theorem et_HP.obj {D : va_G} {dA : Nat → ClassId} {B n k ci : Nat} {h : Nat → et_MC} {H : Heap} {fs : List Value} {r : vw_C} (hP : et_HP D dA B h n H) (hh : h k = .inr (ci, fs)) (hc : et_cl[ci]? = some r) : k < n ∧ t_OB (B + k) (D.1 ci) r.2.2 (D.2 ci) H (vp_V (fs.map (et_em B))) := by
  rcases hP.2 k with h0 | ⟨h1, h2⟩
  · rw [hh] at h0
    have h3 : ci = 1000 := by
      have := Sum.inr.inj h0
      exact (Prod.mk.inj this).1
    subst h3
    have h9 : et_cl[1000]? = none := rfl
    rw [h9] at hc
    cases hc
  · rw [hh] at h2
    obtain ⟨r', h3, h4⟩ := h2
    cases hc.symm.trans h3
    exact ⟨h1, h4⟩
/-- what stays of the machine's tables and of the old heap over a whole run -/
def et_stF (B : Nat) (U : State) (nm d : String) : Prop := ∃ (c : ClassId) (k : Class) (i : Nat) (f : Field) (a : Nat) (cell : Cell) (v : Value), U.vm.findClass "java/lang/Throwable" = some c ∧ U.fieldFound? "java/lang/Throwable" nm d = some (c, k, i, f) ∧ f.isStatic = true ∧ k.statics = some a ∧ a < B ∧ U.heap[a]? = some cell ∧ cell.vm.isStatics = true ∧ cell.cls = c ∧ f.slot < cell.slots.size ∧ k.staticTypes[f.slot]? = some f.type ∧ cell.slots[f.slot]? = some v ∧ v.isRef = true
theorem et_stF.moved {B : Nat} {u U : State} {nm d : String} (hvm : u.vm.Alike U.vm) (hF : ∀ q : Nat, q < B → U.heap[q]? = u.heap[q]?) (h : et_stF B u nm d) : et_stF B U nm d := by
  obtain ⟨c, k, i, f, a, cell, v, h1, h2, h3, h4, h5, h6, h7, h8, h9, h10, h11, h12⟩ := h
  obtain ⟨k', hi', he⟩ := State.fieldFound?_setVm hvm h2
  exact ⟨c, k', i, f, a, cell, v, by rw [hvm.findClass]; exact h1, hi', h3, by rw [he]; exact h4, h5, by rw [hF a h5]; exact h6, h7, h8, h9, by rw [he]; exact h10, h11, h12⟩
def et_Wd (sc : et_X) (B : Nat) (D : va_G) (dA : Nat → ClassId) (U : State) : Prop :=
  va_K D et_cl (et_tys dA) U ∧ (∀ w ∈ et_NST, va_Nw w U) ∧ (et_stF B U "UNASSIGNED_STACK" "[Ljava/lang/StackTraceElement;" ∧ et_stF B U "SUPPRESSED_SENTINEL" "Ljava/util/List;") ∧ (∀ q ∈ et_STR, ∃ a : Nat, vk_R q.1 q.2.1 q.2.2 a U) ∧ (∀ C ∈ et_AOS, va_AO C U) ∧ va_X sc.1 sc.2.1 sc.2.2 U U.heap ∧ sc.1 < B ∧ (∃ kA : Class, U.vm.classes[dA 4]? = some kA ∧ kA.kind = .array (dA 0) (.array .int)) ∧ va_Nc (et_exn 1) (et_exn 0) U
theorem et_Wd.moved {sc : et_X} {B : Nat} {D : va_G} {dA : Nat → ClassId} {u U : State} (hW : u.WarmedH U.vm) (hF : ∀ q : Nat, q < B → U.heap[q]? = u.heap[q]?) (h : et_Wd sc B D dA u) : et_Wd sc B D dA U := by
  obtain ⟨h1, h2, ⟨h3, h4⟩, h5, h6, ⟨scr, g1, g2, g3⟩, h8, ⟨kA, hkA, hkk⟩, h9⟩ := h
  obtain ⟨kA', hkA', heA⟩ := hW.alike.2.2 _ _ hkA
  refine ⟨va_K.moved hW.alike h1, fun w hw => ?_, ⟨h3.moved hW.alike hF, h4.moved hW.alike hF⟩, fun q hq => ?_, fun C hC => (h6 C hC).moved hW.alike, ⟨scr, by rw [hF _ h8]; exact g1, State.isArrayOf_alike hW.alike g2, g3⟩, h8, ⟨kA', hkA', by rw [heA]; exact hkk⟩, va_Nc.moved hW.alike h9⟩
  · have h7 := h2 w hw
    have h8 := et_NST_ok w hw
    cases w <;> first | exact va_Nw.warmF hW h7 | exact va_Nw.warmM hW h7 | exact va_Nw.warmD hW h7 | exact va_tabs (u := u.setVm U.vm) rfl rfl (by rw [Cond.castable_setVm hW.alike]; exact h7) | exact absurd h8 (by simp [et_isN])
  · obtain ⟨a, ha⟩ := h5 q hq
    exact ⟨a, ha.warm hW⟩
def et_rm (d mc ms : Nat) : Room := { frames := 8 + d, cells := mc, slots := ms, locals := 120 + 90 * d }
def et_L (l : Launch) : Prop := ∀ e : Env, l.admits e → e.platform.stackTraces = false
def et_C (sc : et_X) (Y : et_Y) (d mc ms B : Nat) (D : va_G) (dA : Nat → ClassId) (p : Program) (l : Launch) (R : Room) (s : State) (m : MethodId) (args : Array Value) (meth : Method) (c : Code) : Prop :=
  p.tables.exec = Jvm.exec ∧ c.code = Y.2.1 ∧ c.maxLocals = Y.2.2.1 ∧ meth.sig.returnType = Y.2.2.2.1 ∧ meth.locks = false ∧ meth.name = Y.1.name ∧ s.vm.findClass Y.1.cls = some m.cls ∧ (∀ w ∈ et_W, w.before args s = true) ∧
  c.exceptionTable.toList.map (fun h => (h.startPc, h.endPc, h.handlerPc, h.catchType)) = Y.2.2.2.2 ∧ R = et_rm d mc ms ∧ et_Wd sc B D dA s ∧ et_L l
section ETCx
variable {sc : et_X} {Y : et_Y} {d mc ms B : Nat} {D : va_G} {dA : Nat → ClassId} {p : Program} {l : Launch} {R : Room} {s : State} {m : MethodId} {args : Array Value} {meth : Method} {c : Code}
theorem et_C.ret (C : et_C sc Y d mc ms B D dA p l R s m args meth c) : meth.sig.returnType = Y.2.2.2.1 := C.2.2.2.1
theorem et_C.locks (C : et_C sc Y d mc ms B D dA p l R s m args meth c) : meth.locks = false := C.2.2.2.2.1
theorem et_C.name (C : et_C sc Y d mc ms B D dA p l R s m args meth c) : meth.name = Y.1.name := C.2.2.2.2.2.1
theorem et_C.own (C : et_C sc Y d mc ms B D dA p l R s m args meth c) : s.vm.findClass Y.1.cls = some m.cls := C.2.2.2.2.2.2.1
theorem et_C.hts (C : et_C sc Y d mc ms B D dA p l R s m args meth c) : ∀ w ∈ et_W, w.before args s = true := C.2.2.2.2.2.2.2.1
theorem et_C.tab (C : et_C sc Y d mc ms B D dA p l R s m args meth c) : c.exceptionTable.toList.map (fun h => (h.startPc, h.endPc, h.handlerPc, h.catchType)) = Y.2.2.2.2 := C.2.2.2.2.2.2.2.2.1
theorem et_C.rm (C : et_C sc Y d mc ms B D dA p l R s m args meth c) : R = et_rm d mc ms := C.2.2.2.2.2.2.2.2.2.1
theorem et_C.wd (C : et_C sc Y d mc ms B D dA p l R s m args meth c) : et_Wd sc B D dA s := C.2.2.2.2.2.2.2.2.2.2.1
theorem et_C.la (C : et_C sc Y d mc ms B D dA p l R s m args meth c) : et_L l := C.2.2.2.2.2.2.2.2.2.2.2
theorem et_C.kk (C : et_C sc Y d mc ms B D dA p l R s m args meth c) : va_K D et_cl (et_tys dA) s := C.wd.1
end ETCx
/-- the answer, or the kind of the exception -/
def et_O (B : Nat) (r : et_R) (o : Outcome) (t : State) : Prop := match r with
  | .inl v => o = .returned (v.map (et_em B))
  | .inr k => ∃ (a : Nat) (ce : Cell), o = .threw (B + a) ∧ t.heap[B + a]? = some ce ∧ t.vm.findClass (et_exn k) = some ce.cls ∧ ce.vm.isStatics = false
def et_Qc (B : Nat) (D : va_G) (dA : Nat → ClassId) (Post : et_R → (Nat → et_MC) → Nat → Prop) : Array Value → State → Outcome → State → Prop := fun _ st o t =>
  (∃ (r : et_R) (h : Nat → et_MC) (n : Nat), Post r h n ∧ et_HP D dA B h n t.heap ∧ et_O B r o t) ∧ ∀ q : Nat, q < B → t.heap[q]? = st.heap[q]?
/-- the locals -/
def et_ll (B : Nat) : Nat → List (Option Value) → List (Nat × Value)
  | _, [] => []
  | i, none :: r => et_ll B (i + 1) r
  | i, some v :: r => (i, et_em B v) :: et_ll B (i + 1) r
theorem et_ll_mem {B : Nat} : ∀ (lv : List (Option Value)) (i : Nat) (q : Nat × Value), q ∈ et_ll B i lv ↔ ∃ (j : Nat) (v : Value), lv[j]? = some (some v) ∧ q = (i + j, et_em B v)
  | [], i, q => by simp [et_ll]
  | none :: r, i, q => by
    rw [et_ll, et_ll_mem r (i + 1) q]
    constructor
    · rintro ⟨j, v, h1, h2⟩
      exact ⟨j + 1, v, by simpa using h1, by rw [h2]; congr 1; omega⟩
    · rintro ⟨j, v, h1, h2⟩
      cases j with
      | zero => simp at h1
      | succ j => exact ⟨j, v, by simpa using h1, by rw [h2]; congr 1; omega⟩
  | some w :: r, i, q => by
    rw [et_ll, List.mem_cons, et_ll_mem r (i + 1) q]
    constructor
    · rintro (h | ⟨j, v, h1, h2⟩)
      · exact ⟨0, w, by simp, by rw [h]; rfl⟩
      · exact ⟨j + 1, v, by simpa using h1, by rw [h2]; congr 1; omega⟩
    · rintro ⟨j, v, h1, h2⟩
      cases j with
      | zero =>
        simp at h1
        subst h1
        exact Or.inl h2
      | succ j => exact Or.inr ⟨j, v, by simpa using h1, by rw [h2]; congr 1; omega⟩
theorem et_ld {B nL j : Nat} {lv : List (Option Value)} {v : Value} {ls : Array Slot} (hl : lv_has ls nL (et_ll B 0 lv)) (hj : lv[j]? = some (some v)) : ls[j]? = some (.val (et_em B v)) := by
  have h := hl.2.2 (j, et_em B v) ((et_ll_mem lv 0 _).mpr ⟨j, v, hj, by simp⟩)
  exact h
theorem et_sub {ls : Array Slot} {nL : Nat} {l l' : List (Nat × Value)} (h : lv_has ls nL l) (hs : ∀ q ∈ l', q ∈ l) : lv_has ls nL l' := ⟨h.1, h.2.1, fun q hq => h.2.2 q (hs q hq)⟩
def et_pv (lv : List (Option Value)) (i : Nat) : Bool := match i with
  | 0 => true
  | k + 1 => match lv[k]? with
    | some (some w) => w.category != 2
    | _ => true
theorem et_pv_ok {lv : List (Option Value)} {i j : Nat} {w : Value} (h : et_pv lv i = true) (hj : lv[j]? = some (some w)) (hi : j + 1 = i) : ¬ w.category = 2 := by
  subst hi
  simp only [et_pv, hj] at h
  simpa using h
theorem et_st1 {B i : Nat} {lv : List (Option Value)} {v : Value} (h : et_pv lv i = true) : ∀ q ∈ et_ll B 0 (lv.set i (some v)), q ∈ ((i, et_em B v) :: (et_ll B 0 lv).filter (fun q => !(q.1 == i) && !(q.1 + 1 == i && q.2.category == 2))) := by
  intro q hq
  obtain ⟨j, w, h1, h2⟩ := (et_ll_mem _ _ _).mp hq
  rw [Nat.zero_add] at h2
  subst h2
  by_cases hj : j = i
  · subst hj
    have hlt : j < lv.length := by
      have := (List.getElem?_eq_some_iff.mp h1).1
      simpa using this
    rw [List.getElem?_set_self hlt] at h1
    cases h1
    exact List.mem_cons_self
  · rw [List.getElem?_set_ne (Ne.symm hj)] at h1
    refine List.mem_cons_of_mem _ (List.mem_filter.mpr ⟨(et_ll_mem _ _ _).mpr ⟨j, w, h1, by simp⟩, ?_⟩)
    by_cases h3 : j + 1 = i
    · have h4 := et_pv_ok h h1 h3
      simp [hj, et_em_cat, h4]
    · simp [hj, h3]
theorem et_st2 {B i : Nat} {lv : List (Option Value)} {v : Value} (h : et_pv lv i = true) : ∀ q ∈ et_ll B 0 ((lv.set i (some v)).set (i + 1) none), q ∈ ((i, et_em B v) :: (et_ll B 0 lv).filter (fun q => !(q.1 == i) && (!(q.1 == i + 1) && !(q.1 + 1 == i && q.2.category == 2)))) := by
  intro q hq
  obtain ⟨j, w, h1, h2⟩ := (et_ll_mem _ _ _).mp hq
  rw [Nat.zero_add] at h2
  subst h2
  by_cases hj1 : j = i + 1
  · subst hj1
    exfalso
    by_cases hlt : i + 1 < (lv.set i (some v)).length
    · rw [List.getElem?_set_self hlt] at h1
      cases h1
    · rw [List.getElem?_eq_none (by rw [List.length_set]; omega)] at h1
      cases h1
  · rw [List.getElem?_set_ne (Ne.symm hj1)] at h1
    by_cases hj : j = i
    · subst hj
      have hlt : j < lv.length := by
        have := (List.getElem?_eq_some_iff.mp h1).1
        simpa using this
      rw [List.getElem?_set_self hlt] at h1
      cases h1
      exact List.mem_cons_self
    · rw [List.getElem?_set_ne (Ne.symm hj)] at h1
      refine List.mem_cons_of_mem _ (List.mem_filter.mpr ⟨(et_ll_mem _ _ _).mpr ⟨j, w, h1, by simp⟩, ?_⟩)
      by_cases h3 : j + 1 = i
      · have h4 := et_pv_ok h h1 h3
        simp [hj, hj1, et_em_cat, h4]
      · simp [hj, hj1, h3]
/-- the judgement of the small machine -/
def et_M (sc : et_X) (Y : et_Y) (d mc ms : Nat) (Post : et_R → (Nat → et_MC) → Nat → Prop) (pc : Nat) (lv : List (Option Value)) (st : List Value) (h : Nat → et_MC) (n nc ns : Nat) : Prop :=
  ∀ (p : Program) (l : Launch) (e : Env) (R : Room) (s : State) (m : MethodId) (args : Array Value) (below : List Frame) (meth : Method) (c : Code) (B : Nat) (D : va_G) (dA : Nat → ClassId) (ls : Array Slot) (H : Heap) (locs : List Loc),
    et_C sc Y d mc ms B D dA p l R s m args meth c → et_HP D dA B h n H → (∀ q : Nat, q < B → H[q]? = s.heap[q]?) → (∀ q ∈ locs, B ≤ q.base) → lv_has ls Y.2.2.1 (et_ll B 0 lv) →
    W p l e R s m args below meth c H locs nc ns (et_Q below (et_Qc B D dA Post) args s mc ms (fun q => B ≤ q)) (F0 m pc ls (st.map (et_em B)))
/-- the contract of the small machine -/
def et_Cn (sc : et_X) (Y : et_Y) (d : Nat) (av : List Value) (h : Nat → et_MC) (n mc ms : Nat) (Post : et_R → (Nat → et_MC) → Nat → Prop) : Prop :=
  ∀ (l : Launch) (B : Nat) (D : va_G) (dA : Nat → ClassId), et_L l →
    et_Met l Y.1 et_W (et_rm d mc ms) (va_Pc (av.map (et_em B)) (fun U => et_HP D dA B h n U.heap ∧ et_Wd sc B D dA U)) (et_Qc B D dA Post) mc ms (fun q => B ≤ q)
/-- a method's locals at its start -/
def et_av : List Value → List (Option Value)
  | [] => []
  | v :: r => if v.category = 2 then some v :: none :: et_av r else some v :: et_av r
theorem et_av_args {B : Nat} : ∀ (av : List Value) (i k : Nat) (q : Nat × Value), q ∈ et_ll B i (et_av av ++ List.replicate k none) → q ∈ lv_args i (av.map (et_em B))
  | [], i, k, q, h => by
    exfalso
    obtain ⟨j, v, h1, -⟩ := (et_ll_mem _ _ _).mp h
    simp only [et_av, List.nil_append, List.getElem?_replicate] at h1
    split at h1 <;> simp at h1
  | v :: r, i, k, q, h => by
    by_cases hc : v.category = 2
    · simp only [et_av, hc, if_true, List.cons_append, et_ll, List.mem_cons] at h
      simp only [List.map_cons, lv_args, et_em_cat, hc, if_true, List.mem_cons]
      rcases h with h | h
      · exact Or.inl h
      · exact Or.inr (et_av_args r (i + 2) k q h)
    · simp only [et_av, hc, if_false, List.cons_append, et_ll, List.mem_cons] at h
      simp only [List.map_cons, lv_args, et_em_cat, hc, if_false, List.mem_cons]
      rcases h with h | h
      · exact Or.inl h
      · exact Or.inr (et_av_args r (i + 1) k q h)
theorem et_sl_len (B : Nat) (av : List Value) : (lg_sl (av.map (et_em B))).length = (et_av av).length := by
  induction av with
  | nil => rfl
  | cons v r ih =>
    by_cases hc : v.category = 2
    · simp only [lg_sl, List.map_cons, List.flatMap_cons, et_em_cat, hc, if_true, List.length_append, et_av] at ih ⊢
      rw [ih]
      simp
      omega
    · simp only [lg_sl, List.map_cons, List.flatMap_cons, et_em_cat, hc, if_false, List.length_append, et_av] at ih ⊢
      rw [ih]
      simp
      omega
/-- a contract out of the walk from the entry -/
theorem et_Cn.of {sc : et_X} {Y : et_Y} {d : Nat} {av : List Value} {h : Nat → et_MC} {n mc ms : Nat} {Post : et_R → (Nat → et_MC) → Nat → Prop} {lv : List (Option Value)} (k : Nat) (hlv : et_av av ++ List.replicate k none = lv) (hlen : lv.length = Y.2.2.1)
    (hy : plainName Y.1.cls = true) (hw : et_cw Y.1 Y.2.1 Y.2.2.1 Y.2.2.2.1 Y.2.2.2.2 ∈ et_W) (K : et_M sc Y d mc ms Post 0 lv [] h n 0 0) : et_Cn sc Y d av h n mc ms Post := by
  intro l B D dA hl
  refine et_MetW (cc := Y.2.1) (nL := Y.2.2.1) (ret := Y.2.2.2.1) (hh := Y.2.2.2.2) hy hw ?_
  intro p e s m args below meth c s₁ Bd hml htab hv
  obtain ⟨rfl, hP, hWd⟩ := hv
  have hl1 : (lg_sl (av.map (et_em B))).length ≤ Y.2.2.1 := by
    rw [et_sl_len, ← hlen, ← hlv, List.length_append]
    omega
  have he := lv_entry (av.map (et_em B)) hl1
  rw [lg_entry_eq]
  exact K p l e _ s m _ below meth c B D dA _ s.heap [] ⟨Bd.exec, Bd.bytes, hml, Bd.returns, Bd.notSynchronized, (name_of_methodNamed Bd.named Bd.method).1, findClass_of_methodNamed Bd.named, atoms_spec (ws := et_W) Bd.pre, htab, rfl, hWd, hl⟩ hP (fun _ _ => rfl) (fun _ h => by cases h) (et_sub he (fun q hq => et_av_args av 0 k q (by rw [hlv]; exact hq)))
