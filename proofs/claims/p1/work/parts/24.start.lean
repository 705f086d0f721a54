/-! ===== from the claim's start to the small machine ===== -/
theorem et_tb {w : Cond} (h : w ∈ et_W) : w ∈ lw_tbl := (List.mem_filter.mp h).1
theorem et_NST_on {w : Cond} (h : et_isN w = true) : w.onTables = true := by
  cases w <;> first | rfl | cases h
theorem et_arrC {args : Array Value} {s : State} {ty : FieldType} (h : (Cond.arrayClass ty).before args s = true) : ∃ cA : ClassId, ArrOfT s cA ty ∧ s.vm.findClass ("[" ++ ty.toString) = some cA := by
  obtain ⟨cA, kA, comp, h1, h2, h3⟩ := Cond.arrayClass_spec h
  exact ⟨cA, fun n z => ⟨(fun k h => by cases h), kA, h2, comp, h3⟩, h1⟩
theorem et_arrO {args : Array Value} {s : State} {C : String} (h : (Cond.arrayOver (.object C)).before args s = true) : ∃ cA : ClassId, ArrOfT s cA (.object C) ∧ va_RA s cA (.object C) := by
  obtain ⟨comp, c, k, h1, -, h2, h3, h4⟩ := Cond.arrayOver_spec h
  exact ⟨c, fun n z => ⟨(fun k h => by cases h), k, h2, comp, h3⟩, k, comp, h2, h3, h1, h4⟩
theorem et_arrA {args : Array Value} {s : State} (h : (Cond.arrayOver (.array .int)).before args s = true) {cI : ClassId} (hI : s.vm.findClass "[I" = some cI) : ∃ (cA : ClassId) (kA : Class), s.vm.classes[cA]? = some kA ∧ kA.kind = .array cI (.array .int) ∧ s.vm.findClass ("[" ++ (FieldType.array .int).toString) = some cA := by
  have hI' : s.vm.findClass (FieldType.array .int).toString = some cI := hI
  simp only [Cond.before, Cond.holds, Cond.value, beq_iff_eq, hI', Option.bind_some, Option.bind_eq_some_iff, Option.map_eq_some_iff] at h
  obtain ⟨c, hi, k, hk, hb⟩ := h
  obtain ⟨hlt, hp, -⟩ := Array.findIdx?_eq_some_iff_getElem.mp hi
  have hkk : s.vm.classes[c] = k := (Array.getElem?_eq_some_iff.mp hk).2
  rw [hkk] at hp
  cases hkind : k.kind with
  | array component ty =>
    rw [hkind] at hb hp
    simp at hb hp
    exact ⟨c, k, hk, by rw [hkind, hp, hb.1], hb.2⟩
  | _ => rw [hkind] at hb; simp at hb
theorem et_stF.of {args : Array Value} {s : State} {nm d : String} (h1 : (Cond.laysStatic "java/lang/Throwable" nm d).before args s = true) (h2 : (Cond.isRef (.static "java/lang/Throwable" nm d)).before args s = true) : et_stF s.heap.size s nm d := by
  obtain ⟨c, k, i, f, a, cell, g1, g2, g3, g4, g5, g6, g7, g8, g9⟩ := Cond.laysStatic_spec h1
  have hv : cell.slots[f.slot]? = some cell.slots[f.slot] := Array.getElem?_eq_getElem g8
  refine ⟨c, k, i, f, a, cell, cell.slots[f.slot], g1, g2, g3, g4, (Array.getElem?_eq_some_iff.mp g5).1, g5, g6, g7, g8, g9, hv, ?_⟩
  have he : (Term.static "java/lang/Throwable" nm d).eval args s none [] s = some cell.slots[f.slot] := by
    simp [Term.eval, State.fieldNamed?, g2, g3, g4, g5, g6, hv]
  simp only [Cond.before, Cond.holds, Cond.value, he] at h2
  cases hc : cell.slots[f.slot] <;> rw [hc] at h2 <;> first | rfl | simp at h2
theorem et_str {args : Array Value} {s : State} {own tx : String} {k : Nat} (h : (Cond.stringRef own k tx).before args s = true) : ∃ a : Nat, vk_R own k tx a s := by
  have h1 : (Cond.stringRef own k tx).before #[] s = true := h
  simp only [Cond.before, Cond.holds, Cond.value, beq_iff_eq, Option.map_eq_some_iff] at h
  obtain ⟨c, hc, hb⟩ := h
  simp only [Bool.and_eq_true] at hb
  obtain ⟨-, hb⟩ := hb
  cases hr : s.resolvedAt? own k with
  | none => rw [hr] at hb; cases hb
  | some r =>
    rw [hr] at hb
    cases r with
    | string a =>
      refine ⟨a, vk_R.of (A := #[]) h1 ?_⟩
      simp only [State.resolvedAt?, Option.bind_eq_bind, Option.bind_eq_some_iff] at hr
      obtain ⟨c2, hc2, kk, hkk, hj⟩ := hr
      simp [Term.eval, hc2, hkk, hj]
    | _ => cases hb
def et_sel {α : Type} (a0 a1 a2 a3 a4 a5 a6 a7 : α) (c : Nat) : α := match c with
  | 0 => a0 | 1 => a1 | 2 => a2 | 3 => a3 | 4 => a4 | 5 => a5 | 6 => a6 | _ => a7
theorem et_world {args : Array Value} {s : State} {b L : Nat} {xs : Nat → Int32} (hts : ∀ w ∈ lw_tbl, w.before args s = true) (hgv : (Jvm.Cond.and given_1 narrow_1).before args s = true) (hX : va_X b L xs s s.heap) (hb : b < s.heap.size) : ∃ (D : va_G) (dA : Nat → ClassId), et_Wd (b, L, xs) s.heap.size D dA s := by
  have hq := flat_of_before _ hgv
  obtain ⟨cC, iC, uC⟩ := u_known (C := "EqualTerms$Cheapest") (T := F_C) (N := 6) hts (fun w hw => et_tb (in_C w hw)) (hts _ (et_tb ins_C))
  obtain ⟨cG, iG, uG⟩ := u_known (C := "EqualTerms$Graph") (T := F_G) (N := 8) hts (fun w hw => et_tb (in_G w hw)) (hts _ (et_tb ins_G))
  obtain ⟨cR, iR, uR⟩ := u_known (C := "EqualTerms$Round") (T := F_R) (N := 6) hts (fun w hw => et_tb (in_R w hw)) (hts _ (et_tb ins_R))
  obtain ⟨cU, iU, uU⟩ := u_known (C := "EqualTerms$Rule") (T := F_U) (N := 4) hts (fun w hw => et_tb (in_U w hw)) (hts _ (et_tb ins_U))
  obtain ⟨cT, iT, uT⟩ := u_known (C := "EqualTerms$Text") (T := F_T) (N := 4) hts (fun w hw => et_tb (in_T w hw)) (hts _ (et_tb ins_T))
  obtain ⟨cK, iK, uK⟩ := u_known (C := "EqualTerms$Walk") (T := F_K) (N := 3) hts (fun w hw => et_tb (in_K w hw)) (hts _ (et_tb ins_K))
  obtain ⟨cE, iE, uE⟩ := u_known (C := "EqualTerms") (T := F_E) (N := 7) hts (fun w hw => et_tb (in_E w hw)) (hts _ (et_tb ins_E))
  obtain ⟨cM, iM, uM⟩ := u_known (C := "EqualTermsModel") (T := F_M) (N := 33) hts (fun w hw => et_tb (in_M w hw)) (hts _ (et_tb ins_M))
  obtain ⟨aI, aI1, aI2⟩ := et_arrC (hts _ (et_tb ac_int))
  obtain ⟨aJ, aJ1, aJ2⟩ := et_arrC (hts _ (et_tb ac_long))
  obtain ⟨aZ, aZ1, aZ2⟩ := et_arrC (hts _ (et_tb ac_boolean))
  have hoR : (Cond.arrayOver (.object "EqualTerms$Rule")).before args s = true := hts _ (by decide +kernel)
  obtain ⟨aR, aR1, aR2⟩ := et_arrO hoR
  obtain ⟨aA, kA, aA1, aA2, aA3⟩ := et_arrA (hts _ (by decide +kernel)) (cI := aI) aI2
  refine ⟨(et_sel cC cG cR cU cT cK cE cM, et_sel iC iG iR iU iT iK iE iM), et_sel aI aJ aZ aR aA aA aA aA, ⟨fun c q hc => ?_, fun k q hk => ?_⟩, fun w hw => va_Nw.of (et_NST_on (et_NST_ok w hw)) (hts w (et_NST_in w hw)), ⟨et_stF.of (hts _ (by decide +kernel)) (hq _ (by decide +kernel)), et_stF.of (hts _ (by decide +kernel)) (hq _ (by decide +kernel))⟩, fun q hq => et_str (hts _ (et_STR_in q hq)), fun C hC => ?_, hX, hb, ⟨kA, aA1, aA2⟩, va_Nc.of (args := args) (hq _ (by decide +kernel))⟩
  · match c, hc with
    | 0, hc => cases hc; exact uC
    | 1, hc => cases hc; exact uG
    | 2, hc => cases hc; exact uR
    | 3, hc => cases hc; exact uU
    | 4, hc => cases hc; exact uT
    | 5, hc => cases hc; exact uK
    | 6, hc => cases hc; exact uE
    | 7, hc => cases hc; exact uM
    | j + 8, hc => cases hc
  · match k, hk with
    | 0, hk => cases hk; exact ⟨aI1, aI2⟩
    | 1, hk => cases hk; exact ⟨aJ1, aJ2⟩
    | 2, hk => cases hk; exact ⟨aZ1, aZ2⟩
    | 3, hk => cases hk; exact ⟨aR1, aR2⟩
    | 4, hk => cases hk; exact ⟨fun n z => ⟨(fun k h => by cases h), kA, aA1, aI, aA2⟩, aA3⟩
    | j + 5, hk => cases hk
  · obtain rfl : C = "EqualTerms$Rule" := by simpa [et_AOS] using hC
    exact va_AO.of hoR
/-- a wider room serves where a narrower one does -/
theorem et_wide {p : Program} {l : Launch} {e : Env} {R R' : Room} {s : State} {m : MethodId} {args : Array Value} {below : List Frame} {meth : Method} {c : Code} {H : Heap} {locs : List Loc} {cells slots : Nat} {Q : State → Prop} {g : JFrame} (h1 : R'.frames ≤ R.frames) (h2 : R'.locals ≤ R.locals) (h3 : R'.cells ≤ R.cells) (h4 : R'.slots ≤ R.slots)
    (k : W p l e R' s m args below meth c H locs cells slots Q g) : W p l e R s m args below meth c H locs cells slots Q g := fun T hT X => k T hT
  ⟨X.admits, X.cas, X.clock, X.frames, by
    have hr := X.room
    simp only [State.hasRoom, Bool.and_eq_true, decide_eq_true_eq] at hr ⊢
    obtain ⟨⟨⟨⟨a1, a2, a3, a4, a5, a6⟩, a7⟩, a8⟩, a9⟩ := hr
    exact ⟨⟨⟨⟨by omega, by omega, by omega, by omega, by omega, a6⟩, by omega⟩, by omega⟩, a9⟩, X.hears, X.method, X.code, X.here, X.tail, X.warmed, X.limits, X.bytes, X.same⟩
theorem et_flag {l : Launch} (h : l.flags = flags0) : et_L l := fun e he => by
  rw [he.platform]
  show l.stackTraces = false
  unfold Launch.stackTraces
  rw [h]
  decide +kernel
theorem et_void_HP {D : va_G} {dA : Nat → ClassId} {H : Heap} : et_HP D dA H.size (fun _ => et_void) 0 H := ⟨rfl, fun _ => Or.inl rfl⟩
