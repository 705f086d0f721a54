theorem et_ne {q B k : Nat} (h : q < B) : q ≠ B + k := by omega
section ETR
variable {sc : et_X} {Y : et_Y} {d mc ms : Nat} {Post : et_R → (Nat → et_MC) → Nat → Prop} {pc : Nat} {lv : List (Option Value)} {st : List Value} {h : Nat → et_MC} {n nc ns : Nat}
theorem et_iconst {z : Int} {v : Int32} (hdg : decode Y.2.1 pc = .ok (.iconst z, 1)) (hv : Int32.ofInt z = v) (k : et_M sc Y d mc ms Post (pc + 1) lv (.int v :: st) h n nc ns) : et_M sc Y d mc ms Post (pc) lv (st) h n nc ns := by
  intro p l e R s m args below meth c B D dA ls H locs C hP hF hL hl
  exact lv_iconst (rest := st.map (et_em B)) C.1 C.2.1 hdg hv (k p l e R s m args below meth c B D dA ls H locs C hP hF hL hl)
theorem et_bipush {z : Int} {v : Int32} (hdg : decode Y.2.1 pc = .ok (.bipush z, 2)) (hv : (Int8.ofInt z).toInt32 = v) (k : et_M sc Y d mc ms Post (pc + 2) lv (.int v :: st) h n nc ns) : et_M sc Y d mc ms Post (pc) lv (st) h n nc ns := by
  intro p l e R s m args below meth c B D dA ls H locs C hP hF hL hl
  exact lv_bipush (rest := st.map (et_em B)) C.1 C.2.1 hdg hv (k p l e R s m args below meth c B D dA ls H locs C hP hF hL hl)
theorem et_sipush {z : Int} {v : Int32} (hdg : decode Y.2.1 pc = .ok (.sipush z, 3)) (hv : (Int16.ofInt z).toInt32 = v) (k : et_M sc Y d mc ms Post (pc + 3) lv (.int v :: st) h n nc ns) : et_M sc Y d mc ms Post (pc) lv (st) h n nc ns := by
  intro p l e R s m args below meth c B D dA ls H locs C hP hF hL hl
  exact lv_sipush (rest := st.map (et_em B)) C.1 C.2.1 hdg hv (k p l e R s m args below meth c B D dA ls H locs C hP hF hL hl)
theorem et_lconst {z : Fin 2} {v : Int64} (hdg : decode Y.2.1 pc = .ok (.lconst z, 1)) (hv : Int64.ofNat (z : Nat) = v) (k : et_M sc Y d mc ms Post (pc + 1) lv (.long v :: st) h n nc ns) : et_M sc Y d mc ms Post (pc) lv (st) h n nc ns := by
  intro p l e R s m args below meth c B D dA ls H locs C hP hF hL hl
  exact lv_lconst (rest := st.map (et_em B)) C.1 C.2.1 hdg hv (k p l e R s m args below meth c B D dA ls H locs C hP hF hL hl)
theorem et_iload_n {z : Fin 4} {i : Nat} {x : Int32} (hdg : decode Y.2.1 pc = .ok (.iload_n z, 1)) (hi : (z : Nat) = i) (hj : lv[i]? = some (some (.int x))) (k : et_M sc Y d mc ms Post (pc + 1) lv (.int x :: st) h n nc ns) : et_M sc Y d mc ms Post (pc) lv (st) h n nc ns := by
  intro p l e R s m args below meth c B D dA ls H locs C hP hF hL hl
  exact lv_iload_n (rest := st.map (et_em B)) C.1 C.2.1 hdg hi (et_ld hl hj) (k p l e R s m args below meth c B D dA ls H locs C hP hF hL hl)
theorem et_iload {i : Nat} {x : Int32} (hdg : decode Y.2.1 pc = .ok (.iload i, 2)) (hj : lv[i]? = some (some (.int x))) (k : et_M sc Y d mc ms Post (pc + 2) lv (.int x :: st) h n nc ns) : et_M sc Y d mc ms Post (pc) lv (st) h n nc ns := by
  intro p l e R s m args below meth c B D dA ls H locs C hP hF hL hl
  exact lv_iload (rest := st.map (et_em B)) C.1 C.2.1 hdg (et_ld hl hj) (k p l e R s m args below meth c B D dA ls H locs C hP hF hL hl)
theorem et_lload_n {z : Fin 4} {i : Nat} {x : Int64} (hdg : decode Y.2.1 pc = .ok (.lload_n z, 1)) (hi : (z : Nat) = i) (hj : lv[i]? = some (some (.long x))) (k : et_M sc Y d mc ms Post (pc + 1) lv (.long x :: st) h n nc ns) : et_M sc Y d mc ms Post (pc) lv (st) h n nc ns := by
  intro p l e R s m args below meth c B D dA ls H locs C hP hF hL hl
  exact lv_lload_n (rest := st.map (et_em B)) C.1 C.2.1 hdg hi (et_ld hl hj) (k p l e R s m args below meth c B D dA ls H locs C hP hF hL hl)
theorem et_lload {i : Nat} {x : Int64} (hdg : decode Y.2.1 pc = .ok (.lload i, 2)) (hj : lv[i]? = some (some (.long x))) (k : et_M sc Y d mc ms Post (pc + 2) lv (.long x :: st) h n nc ns) : et_M sc Y d mc ms Post (pc) lv (st) h n nc ns := by
  intro p l e R s m args below meth c B D dA ls H locs C hP hF hL hl
  exact lv_lload (rest := st.map (et_em B)) C.1 C.2.1 hdg (et_ld hl hj) (k p l e R s m args below meth c B D dA ls H locs C hP hF hL hl)
theorem et_aload_n {z : Fin 4} {i : Nat} {x : Nat} (hdg : decode Y.2.1 pc = .ok (.aload_n z, 1)) (hi : (z : Nat) = i) (hj : lv[i]? = some (some (.ref x))) (k : et_M sc Y d mc ms Post (pc + 1) lv (.ref x :: st) h n nc ns) : et_M sc Y d mc ms Post (pc) lv (st) h n nc ns := by
  intro p l e R s m args below meth c B D dA ls H locs C hP hF hL hl
  exact lv_aload_n (rest := st.map (et_em B)) C.1 C.2.1 hdg hi (et_ld hl hj) (k p l e R s m args below meth c B D dA ls H locs C hP hF hL hl)
theorem et_aload {i : Nat} {x : Nat} (hdg : decode Y.2.1 pc = .ok (.aload i, 2)) (hj : lv[i]? = some (some (.ref x))) (k : et_M sc Y d mc ms Post (pc + 2) lv (.ref x :: st) h n nc ns) : et_M sc Y d mc ms Post (pc) lv (st) h n nc ns := by
  intro p l e R s m args below meth c B D dA ls H locs C hP hF hL hl
  exact lv_aload (rest := st.map (et_em B)) C.1 C.2.1 hdg (et_ld hl hj) (k p l e R s m args below meth c B D dA ls H locs C hP hF hL hl)
theorem et_istore_n {z : Fin 4} {i : Nat} {x : Int32} {lv' : List (Option Value)} (hdg : decode Y.2.1 pc = .ok (.istore_n z, 1)) (hi : (z : Nat) = i) (hn : i < Y.2.2.1) (hv : et_pv lv i = true) (hs : lv.set i (some (.int x)) = lv') (k : et_M sc Y d mc ms Post (pc + 1) lv' (st) h n nc ns) : et_M sc Y d mc ms Post (pc) lv (.int x :: st) h n nc ns := by
  intro p l e R s m args below meth c B D dA ls H locs C hP hF hL hl
  refine lv_istore_n (rest := st.map (et_em B)) C.1 C.2.1 hdg hi hl hn rfl (fun ls' hl' => ?_)
  subst hs
  exact k p l e R s m args below meth c B D dA ls' H locs C hP hF hL (et_sub hl' (et_st1 (v := .int x) hv))
theorem et_istore {i : Nat} {x : Int32} {lv' : List (Option Value)} (hdg : decode Y.2.1 pc = .ok (.istore i, 2)) (hn : i < Y.2.2.1) (hv : et_pv lv i = true) (hs : lv.set i (some (.int x)) = lv') (k : et_M sc Y d mc ms Post (pc + 2) lv' (st) h n nc ns) : et_M sc Y d mc ms Post (pc) lv (.int x :: st) h n nc ns := by
  intro p l e R s m args below meth c B D dA ls H locs C hP hF hL hl
  refine lv_istore (rest := st.map (et_em B)) C.1 C.2.1 hdg hl hn rfl (fun ls' hl' => ?_)
  subst hs
  exact k p l e R s m args below meth c B D dA ls' H locs C hP hF hL (et_sub hl' (et_st1 (v := .int x) hv))
theorem et_astore_n {z : Fin 4} {i : Nat} {x : Nat} {lv' : List (Option Value)} (hdg : decode Y.2.1 pc = .ok (.astore_n z, 1)) (hi : (z : Nat) = i) (hn : i < Y.2.2.1) (hv : et_pv lv i = true) (hs : lv.set i (some (.ref x)) = lv') (k : et_M sc Y d mc ms Post (pc + 1) lv' (st) h n nc ns) : et_M sc Y d mc ms Post (pc) lv (.ref x :: st) h n nc ns := by
  intro p l e R s m args below meth c B D dA ls H locs C hP hF hL hl
  refine lv_astore_n (rest := st.map (et_em B)) C.1 C.2.1 hdg hi hl hn rfl (fun ls' hl' => ?_)
  subst hs
  exact k p l e R s m args below meth c B D dA ls' H locs C hP hF hL (et_sub hl' (et_st1 (v := .ref x) hv))
theorem et_astore {i : Nat} {x : Nat} {lv' : List (Option Value)} (hdg : decode Y.2.1 pc = .ok (.astore i, 2)) (hn : i < Y.2.2.1) (hv : et_pv lv i = true) (hs : lv.set i (some (.ref x)) = lv') (k : et_M sc Y d mc ms Post (pc + 2) lv' (st) h n nc ns) : et_M sc Y d mc ms Post (pc) lv (.ref x :: st) h n nc ns := by
  intro p l e R s m args below meth c B D dA ls H locs C hP hF hL hl
  refine lv_astore (rest := st.map (et_em B)) C.1 C.2.1 hdg hl hn rfl (fun ls' hl' => ?_)
  subst hs
  exact k p l e R s m args below meth c B D dA ls' H locs C hP hF hL (et_sub hl' (et_st1 (v := .ref x) hv))
theorem et_lstore_n {z : Fin 4} {i : Nat} {x : Int64} {lv' : List (Option Value)} (hdg : decode Y.2.1 pc = .ok (.lstore_n z, 1)) (hi : (z : Nat) = i) (hn : i + 1 < Y.2.2.1) (hv : et_pv lv i = true) (hs : (lv.set i (some (.long x))).set (i + 1) none = lv') (k : et_M sc Y d mc ms Post (pc + 1) lv' (st) h n nc ns) : et_M sc Y d mc ms Post (pc) lv (.long x :: st) h n nc ns := by
  intro p l e R s m args below meth c B D dA ls H locs C hP hF hL hl
  refine lv_lstore_n (rest := st.map (et_em B)) C.1 C.2.1 hdg hi hl hn rfl (fun ls' hl' => ?_)
  subst hs
  exact k p l e R s m args below meth c B D dA ls' H locs C hP hF hL (et_sub hl' (et_st2 (v := .long x) hv))
theorem et_lstore {i : Nat} {x : Int64} {lv' : List (Option Value)} (hdg : decode Y.2.1 pc = .ok (.lstore i, 2)) (hn : i + 1 < Y.2.2.1) (hv : et_pv lv i = true) (hs : (lv.set i (some (.long x))).set (i + 1) none = lv') (k : et_M sc Y d mc ms Post (pc + 2) lv' (st) h n nc ns) : et_M sc Y d mc ms Post (pc) lv (.long x :: st) h n nc ns := by
  intro p l e R s m args below meth c B D dA ls H locs C hP hF hL hl
  refine lv_lstore (rest := st.map (et_em B)) C.1 C.2.1 hdg hl hn rfl (fun ls' hl' => ?_)
  subst hs
  exact k p l e R s m args below meth c B D dA ls' H locs C hP hF hL (et_sub hl' (et_st2 (v := .long x) hv))
theorem et_iinc {i : Nat} {z : Int} {x v : Int32} {lv' : List (Option Value)} (hdg : decode Y.2.1 pc = .ok (.iinc i z, 3)) (hj : lv[i]? = some (some (.int x))) (hz : x + Int32.ofInt z = v) (hn : i < Y.2.2.1) (hv : et_pv lv i = true) (hs : lv.set i (some (.int v)) = lv') (k : et_M sc Y d mc ms Post (pc + 3) lv' (st) h n nc ns) : et_M sc Y d mc ms Post (pc) lv (st) h n nc ns := by
  intro p l e R s m args below meth c B D dA ls H locs C hP hF hL hl
  obtain ⟨kx, hkx⟩ := List.getElem?_of_mem ((et_ll_mem (B := B) lv 0 (i, .int x)).mpr ⟨i, .int x, hj, by simp [et_em]⟩)
  refine lv_iinc (rest := st.map (et_em B)) C.1 C.2.1 hdg hl hkx hz hn rfl (fun ls' hl' => ?_)
  subst hs
  exact k p l e R s m args below meth c B D dA ls' H locs C hP hF hL (et_sub hl' (et_st1 (v := .int v) hv))
theorem et_iadd {x y : Int32} (hdg : decode Y.2.1 pc = .ok (.iadd, 1))  (k : et_M sc Y d mc ms Post (pc + 1) lv (.int (x + y) :: st) h n nc ns) : et_M sc Y d mc ms Post (pc) lv (.int y :: .int x :: st) h n nc ns := by
  intro p l e R s m args below meth c B D dA ls H locs C hP hF hL hl
  exact lv_iadd (rest := st.map (et_em B)) C.1 C.2.1 hdg  (k p l e R s m args below meth c B D dA ls H locs C hP hF hL hl)
theorem et_isub {x y : Int32} (hdg : decode Y.2.1 pc = .ok (.isub, 1))  (k : et_M sc Y d mc ms Post (pc + 1) lv (.int (x - y) :: st) h n nc ns) : et_M sc Y d mc ms Post (pc) lv (.int y :: .int x :: st) h n nc ns := by
  intro p l e R s m args below meth c B D dA ls H locs C hP hF hL hl
  exact lv_isub (rest := st.map (et_em B)) C.1 C.2.1 hdg  (k p l e R s m args below meth c B D dA ls H locs C hP hF hL hl)
theorem et_imul {x y : Int32} (hdg : decode Y.2.1 pc = .ok (.imul, 1))  (k : et_M sc Y d mc ms Post (pc + 1) lv (.int (x * y) :: st) h n nc ns) : et_M sc Y d mc ms Post (pc) lv (.int y :: .int x :: st) h n nc ns := by
  intro p l e R s m args below meth c B D dA ls H locs C hP hF hL hl
  exact lv_imul (rest := st.map (et_em B)) C.1 C.2.1 hdg  (k p l e R s m args below meth c B D dA ls H locs C hP hF hL hl)
theorem et_iand {x y : Int32} (hdg : decode Y.2.1 pc = .ok (.iand, 1))  (k : et_M sc Y d mc ms Post (pc + 1) lv (.int (x &&& y) :: st) h n nc ns) : et_M sc Y d mc ms Post (pc) lv (.int y :: .int x :: st) h n nc ns := by
  intro p l e R s m args below meth c B D dA ls H locs C hP hF hL hl
  exact lv_iand (rest := st.map (et_em B)) C.1 C.2.1 hdg  (k p l e R s m args below meth c B D dA ls H locs C hP hF hL hl)
theorem et_ior {x y : Int32} (hdg : decode Y.2.1 pc = .ok (.ior, 1))  (k : et_M sc Y d mc ms Post (pc + 1) lv (.int (x ||| y) :: st) h n nc ns) : et_M sc Y d mc ms Post (pc) lv (.int y :: .int x :: st) h n nc ns := by
  intro p l e R s m args below meth c B D dA ls H locs C hP hF hL hl
  exact lv_ior (rest := st.map (et_em B)) C.1 C.2.1 hdg  (k p l e R s m args below meth c B D dA ls H locs C hP hF hL hl)
theorem et_ixor {x y : Int32} (hdg : decode Y.2.1 pc = .ok (.ixor, 1))  (k : et_M sc Y d mc ms Post (pc + 1) lv (.int (x ^^^ y) :: st) h n nc ns) : et_M sc Y d mc ms Post (pc) lv (.int y :: .int x :: st) h n nc ns := by
  intro p l e R s m args below meth c B D dA ls H locs C hP hF hL hl
  exact lv_ixor (rest := st.map (et_em B)) C.1 C.2.1 hdg  (k p l e R s m args below meth c B D dA ls H locs C hP hF hL hl)
theorem et_ineg {x : Int32} (hdg : decode Y.2.1 pc = .ok (.ineg, 1))  (k : et_M sc Y d mc ms Post (pc + 1) lv (.int (-x) :: st) h n nc ns) : et_M sc Y d mc ms Post (pc) lv (.int x :: st) h n nc ns := by
  intro p l e R s m args below meth c B D dA ls H locs C hP hF hL hl
  exact lv_ineg (rest := st.map (et_em B)) C.1 C.2.1 hdg  (k p l e R s m args below meth c B D dA ls H locs C hP hF hL hl)
theorem et_ladd {x y : Int64} (hdg : decode Y.2.1 pc = .ok (.ladd, 1))  (k : et_M sc Y d mc ms Post (pc + 1) lv (.long (x + y) :: st) h n nc ns) : et_M sc Y d mc ms Post (pc) lv (.long y :: .long x :: st) h n nc ns := by
  intro p l e R s m args below meth c B D dA ls H locs C hP hF hL hl
  exact lv_ladd (rest := st.map (et_em B)) C.1 C.2.1 hdg  (k p l e R s m args below meth c B D dA ls H locs C hP hF hL hl)
theorem et_lsub {x y : Int64} (hdg : decode Y.2.1 pc = .ok (.lsub, 1))  (k : et_M sc Y d mc ms Post (pc + 1) lv (.long (x - y) :: st) h n nc ns) : et_M sc Y d mc ms Post (pc) lv (.long y :: .long x :: st) h n nc ns := by
  intro p l e R s m args below meth c B D dA ls H locs C hP hF hL hl
  exact lv_lsub (rest := st.map (et_em B)) C.1 C.2.1 hdg  (k p l e R s m args below meth c B D dA ls H locs C hP hF hL hl)
theorem et_lmul {x y : Int64} (hdg : decode Y.2.1 pc = .ok (.lmul, 1))  (k : et_M sc Y d mc ms Post (pc + 1) lv (.long (x * y) :: st) h n nc ns) : et_M sc Y d mc ms Post (pc) lv (.long y :: .long x :: st) h n nc ns := by
  intro p l e R s m args below meth c B D dA ls H locs C hP hF hL hl
  exact lv_lmul (rest := st.map (et_em B)) C.1 C.2.1 hdg  (k p l e R s m args below meth c B D dA ls H locs C hP hF hL hl)
theorem et_land {x y : Int64} (hdg : decode Y.2.1 pc = .ok (.land, 1))  (k : et_M sc Y d mc ms Post (pc + 1) lv (.long (x &&& y) :: st) h n nc ns) : et_M sc Y d mc ms Post (pc) lv (.long y :: .long x :: st) h n nc ns := by
  intro p l e R s m args below meth c B D dA ls H locs C hP hF hL hl
  exact lv_land (rest := st.map (et_em B)) C.1 C.2.1 hdg  (k p l e R s m args below meth c B D dA ls H locs C hP hF hL hl)
theorem et_lor {x y : Int64} (hdg : decode Y.2.1 pc = .ok (.lor, 1))  (k : et_M sc Y d mc ms Post (pc + 1) lv (.long (x ||| y) :: st) h n nc ns) : et_M sc Y d mc ms Post (pc) lv (.long y :: .long x :: st) h n nc ns := by
  intro p l e R s m args below meth c B D dA ls H locs C hP hF hL hl
  exact lv_lor (rest := st.map (et_em B)) C.1 C.2.1 hdg  (k p l e R s m args below meth c B D dA ls H locs C hP hF hL hl)
theorem et_ishl {x y : Int32} (hdg : decode Y.2.1 pc = .ok (.ishl, 1))  (k : et_M sc Y d mc ms Post (pc + 1) lv (.int (x <<< (y &&& 31)) :: st) h n nc ns) : et_M sc Y d mc ms Post (pc) lv (.int y :: .int x :: st) h n nc ns := by
  intro p l e R s m args below meth c B D dA ls H locs C hP hF hL hl
  exact lv_ishl (rest := st.map (et_em B)) C.1 C.2.1 hdg  (k p l e R s m args below meth c B D dA ls H locs C hP hF hL hl)
theorem et_ishr {x y : Int32} (hdg : decode Y.2.1 pc = .ok (.ishr, 1))  (k : et_M sc Y d mc ms Post (pc + 1) lv (.int (x >>> (y &&& 31)) :: st) h n nc ns) : et_M sc Y d mc ms Post (pc) lv (.int y :: .int x :: st) h n nc ns := by
  intro p l e R s m args below meth c B D dA ls H locs C hP hF hL hl
  exact lv_ishr (rest := st.map (et_em B)) C.1 C.2.1 hdg  (k p l e R s m args below meth c B D dA ls H locs C hP hF hL hl)
theorem et_i2l {x : Int32} {v : Int64} (hdg : decode Y.2.1 pc = .ok (.i2l, 1)) (hv : x.toInt64 = v) (k : et_M sc Y d mc ms Post (pc + 1) lv (.long v :: st) h n nc ns) : et_M sc Y d mc ms Post (pc) lv (.int x :: st) h n nc ns := by
  intro p l e R s m args below meth c B D dA ls H locs C hP hF hL hl
  exact lv_i2l (rest := st.map (et_em B)) C.1 C.2.1 hdg hv (k p l e R s m args below meth c B D dA ls H locs C hP hF hL hl)
theorem et_l2i {x : Int64} {v : Int32} (hdg : decode Y.2.1 pc = .ok (.l2i, 1)) (hv : x.toInt32 = v) (k : et_M sc Y d mc ms Post (pc + 1) lv (.int v :: st) h n nc ns) : et_M sc Y d mc ms Post (pc) lv (.long x :: st) h n nc ns := by
  intro p l e R s m args below meth c B D dA ls H locs C hP hF hL hl
  exact lv_l2i (rest := st.map (et_em B)) C.1 C.2.1 hdg hv (k p l e R s m args below meth c B D dA ls H locs C hP hF hL hl)
theorem et_lushr {x v : Int64} {y : Int32} (hdg : decode Y.2.1 pc = .ok (.lushr, 1)) (hv : (x.toUInt64 >>> (y.toInt64.toUInt64 &&& Int64.toUInt64 63)).toInt64 = v) (k : et_M sc Y d mc ms Post (pc + 1) lv (.long v :: st) h n nc ns) : et_M sc Y d mc ms Post (pc) lv (.int y :: .long x :: st) h n nc ns := by
  intro p l e R s m args below meth c B D dA ls H locs C hP hF hL hl
  exact lv_lushr (rest := st.map (et_em B)) C.1 C.2.1 hdg hv (k p l e R s m args below meth c B D dA ls H locs C hP hF hL hl)
theorem et_lshl {x v : Int64} {y : Int32} (hdg : decode Y.2.1 pc = .ok (.lshl, 1)) (hv : x <<< (y.toInt64 &&& 63) = v) (k : et_M sc Y d mc ms Post (pc + 1) lv (.long v :: st) h n nc ns) : et_M sc Y d mc ms Post (pc) lv (.int y :: .long x :: st) h n nc ns := by
  intro p l e R s m args below meth c B D dA ls H locs C hP hF hL hl
  exact lv_lshl (rest := st.map (et_em B)) C.1 C.2.1 hdg hv (k p l e R s m args below meth c B D dA ls H locs C hP hF hL hl)
theorem et_lcmp {x y : Int64} (hdg : decode Y.2.1 pc = .ok (.lcmp, 1))  (k : et_M sc Y d mc ms Post (pc + 1) lv (.int (lg_cmp x y) :: st) h n nc ns) : et_M sc Y d mc ms Post (pc) lv (.long y :: .long x :: st) h n nc ns := by
  intro p l e R s m args below meth c B D dA ls H locs C hP hF hL hl
  exact W.lcmp (rest := st.map (et_em B)) C.1 C.2.1 hdg  (k p l e R s m args below meth c B D dA ls H locs C hP hF hL hl)
theorem et_dup {v : Value} (hdg : decode Y.2.1 pc = .ok (.dup, 1)) (hv : v.category = 1) (k : et_M sc Y d mc ms Post (pc + 1) lv (v :: v :: st) h n nc ns) : et_M sc Y d mc ms Post (pc) lv (v :: st) h n nc ns := by
  intro p l e R s m args below meth c B D dA ls H locs C hP hF hL hl
  exact lv_dup (rest := st.map (et_em B)) C.1 C.2.1 hdg ((et_em_cat B v).trans hv) (k p l e R s m args below meth c B D dA ls H locs C hP hF hL hl)
theorem et_pop {v : Value} (hdg : decode Y.2.1 pc = .ok (.pop, 1)) (hv : v.category = 1) (k : et_M sc Y d mc ms Post (pc + 1) lv (st) h n nc ns) : et_M sc Y d mc ms Post (pc) lv (v :: st) h n nc ns := by
  intro p l e R s m args below meth c B D dA ls H locs C hP hF hL hl
  exact lv_pop (rest := st.map (et_em B)) C.1 C.2.1 hdg ((et_em_cat B v).trans hv) (k p l e R s m args below meth c B D dA ls H locs C hP hF hL hl)
theorem et_dup_x1 {v w : Value} (hdg : decode Y.2.1 pc = .ok (.dup_x1, 1)) (hv : v.category = 1) (hw : w.category = 1) (k : et_M sc Y d mc ms Post (pc + 1) lv (v :: w :: v :: st) h n nc ns) : et_M sc Y d mc ms Post (pc) lv (v :: w :: st) h n nc ns := by
  intro p l e R s m args below meth c B D dA ls H locs C hP hF hL hl
  exact lv_dup_x1 (rest := st.map (et_em B)) C.1 C.2.1 hdg ((et_em_cat B v).trans hv) ((et_em_cat B w).trans hw) (k p l e R s m args below meth c B D dA ls H locs C hP hF hL hl)
theorem et_dup_x2 {v w u : Value} (hdg : decode Y.2.1 pc = .ok (.dup_x2, 1)) (hv : v.category = 1) (hw : w.category = 1) (hu : u.category = 1) (k : et_M sc Y d mc ms Post (pc + 1) lv (v :: w :: u :: v :: st) h n nc ns) : et_M sc Y d mc ms Post (pc) lv (v :: w :: u :: st) h n nc ns := by
  intro p l e R s m args below meth c B D dA ls H locs C hP hF hL hl
  exact lv_dup_x2 (rest := st.map (et_em B)) C.1 C.2.1 hdg ((et_em_cat B v).trans hv) ((et_em_cat B w).trans hw) ((et_em_cat B u).trans hu) (k p l e R s m args below meth c B D dA ls H locs C hP hF hL hl)
theorem et_dup2 {v w : Value} (hdg : decode Y.2.1 pc = .ok (.dup2, 1)) (hv : v.category = 1) (hw : w.category = 1) (k : et_M sc Y d mc ms Post (pc + 1) lv (v :: w :: v :: w :: st) h n nc ns) : et_M sc Y d mc ms Post (pc) lv (v :: w :: st) h n nc ns := by
  intro p l e R s m args below meth c B D dA ls H locs C hP hF hL hl
  exact lv_dup2_11 (rest := st.map (et_em B)) C.1 C.2.1 hdg ((et_em_cat B v).trans hv) ((et_em_cat B w).trans hw) (k p l e R s m args below meth c B D dA ls H locs C hP hF hL hl)
theorem et_if_eq {x : Int32} {off : Int} {tgt : Nat} (hdg : decode Y.2.1 pc = .ok (.ifCond .eq off, 3)) (ht : (pc : Int) + off = (tgt : Int)) (kt : (x = 0) → et_M sc Y d mc ms Post (tgt) lv (st) h n nc ns) (kf : ¬ (x = 0) → et_M sc Y d mc ms Post (pc + 3) lv (st) h n nc ns) : et_M sc Y d mc ms Post (pc) lv (.int x :: st) h n nc ns := by
  intro p l e R s m args below meth c B D dA ls H locs C hP hF hL hl
  exact lv_if_eq (rest := st.map (et_em B)) C.1 C.2.1 hdg ht (fun q => kt q p l e R s m args below meth c B D dA ls H locs C hP hF hL hl) (fun q => kf q p l e R s m args below meth c B D dA ls H locs C hP hF hL hl)
theorem et_icmp_eq {x y : Int32} {off : Int} {tgt : Nat} (hdg : decode Y.2.1 pc = .ok (.if_icmp .eq off, 3)) (ht : (pc : Int) + off = (tgt : Int)) (kt : (x = y) → et_M sc Y d mc ms Post (tgt) lv (st) h n nc ns) (kf : ¬ (x = y) → et_M sc Y d mc ms Post (pc + 3) lv (st) h n nc ns) : et_M sc Y d mc ms Post (pc) lv (.int y :: .int x :: st) h n nc ns := by
  intro p l e R s m args below meth c B D dA ls H locs C hP hF hL hl
  exact lv_icmp_eq (rest := st.map (et_em B)) C.1 C.2.1 hdg ht (fun q => kt q p l e R s m args below meth c B D dA ls H locs C hP hF hL hl) (fun q => kf q p l e R s m args below meth c B D dA ls H locs C hP hF hL hl)
theorem et_if_ne {x : Int32} {off : Int} {tgt : Nat} (hdg : decode Y.2.1 pc = .ok (.ifCond .ne off, 3)) (ht : (pc : Int) + off = (tgt : Int)) (kt : (¬ x = 0) → et_M sc Y d mc ms Post (tgt) lv (st) h n nc ns) (kf : (x = 0) → et_M sc Y d mc ms Post (pc + 3) lv (st) h n nc ns) : et_M sc Y d mc ms Post (pc) lv (.int x :: st) h n nc ns := by
  intro p l e R s m args below meth c B D dA ls H locs C hP hF hL hl
  exact lv_if_ne (rest := st.map (et_em B)) C.1 C.2.1 hdg ht (fun q => kt q p l e R s m args below meth c B D dA ls H locs C hP hF hL hl) (fun q => kf q p l e R s m args below meth c B D dA ls H locs C hP hF hL hl)
theorem et_icmp_ne {x y : Int32} {off : Int} {tgt : Nat} (hdg : decode Y.2.1 pc = .ok (.if_icmp .ne off, 3)) (ht : (pc : Int) + off = (tgt : Int)) (kt : (¬ x = y) → et_M sc Y d mc ms Post (tgt) lv (st) h n nc ns) (kf : (x = y) → et_M sc Y d mc ms Post (pc + 3) lv (st) h n nc ns) : et_M sc Y d mc ms Post (pc) lv (.int y :: .int x :: st) h n nc ns := by
  intro p l e R s m args below meth c B D dA ls H locs C hP hF hL hl
  exact lv_icmp_ne (rest := st.map (et_em B)) C.1 C.2.1 hdg ht (fun q => kt q p l e R s m args below meth c B D dA ls H locs C hP hF hL hl) (fun q => kf q p l e R s m args below meth c B D dA ls H locs C hP hF hL hl)
theorem et_if_lt {x : Int32} {off : Int} {tgt : Nat} (hdg : decode Y.2.1 pc = .ok (.ifCond .lt off, 3)) (ht : (pc : Int) + off = (tgt : Int)) (kt : (x < 0) → et_M sc Y d mc ms Post (tgt) lv (st) h n nc ns) (kf : ¬ (x < 0) → et_M sc Y d mc ms Post (pc + 3) lv (st) h n nc ns) : et_M sc Y d mc ms Post (pc) lv (.int x :: st) h n nc ns := by
  intro p l e R s m args below meth c B D dA ls H locs C hP hF hL hl
  exact lv_if_lt (rest := st.map (et_em B)) C.1 C.2.1 hdg ht (fun q => kt q p l e R s m args below meth c B D dA ls H locs C hP hF hL hl) (fun q => kf q p l e R s m args below meth c B D dA ls H locs C hP hF hL hl)
theorem et_icmp_lt {x y : Int32} {off : Int} {tgt : Nat} (hdg : decode Y.2.1 pc = .ok (.if_icmp .lt off, 3)) (ht : (pc : Int) + off = (tgt : Int)) (kt : (x < y) → et_M sc Y d mc ms Post (tgt) lv (st) h n nc ns) (kf : ¬ (x < y) → et_M sc Y d mc ms Post (pc + 3) lv (st) h n nc ns) : et_M sc Y d mc ms Post (pc) lv (.int y :: .int x :: st) h n nc ns := by
  intro p l e R s m args below meth c B D dA ls H locs C hP hF hL hl
  exact lv_icmp_lt (rest := st.map (et_em B)) C.1 C.2.1 hdg ht (fun q => kt q p l e R s m args below meth c B D dA ls H locs C hP hF hL hl) (fun q => kf q p l e R s m args below meth c B D dA ls H locs C hP hF hL hl)
theorem et_if_ge {x : Int32} {off : Int} {tgt : Nat} (hdg : decode Y.2.1 pc = .ok (.ifCond .ge off, 3)) (ht : (pc : Int) + off = (tgt : Int)) (kt : (0 ≤ x) → et_M sc Y d mc ms Post (tgt) lv (st) h n nc ns) (kf : ¬ (0 ≤ x) → et_M sc Y d mc ms Post (pc + 3) lv (st) h n nc ns) : et_M sc Y d mc ms Post (pc) lv (.int x :: st) h n nc ns := by
  intro p l e R s m args below meth c B D dA ls H locs C hP hF hL hl
  exact lv_if_ge (rest := st.map (et_em B)) C.1 C.2.1 hdg ht (fun q => kt q p l e R s m args below meth c B D dA ls H locs C hP hF hL hl) (fun q => kf q p l e R s m args below meth c B D dA ls H locs C hP hF hL hl)
theorem et_icmp_ge {x y : Int32} {off : Int} {tgt : Nat} (hdg : decode Y.2.1 pc = .ok (.if_icmp .ge off, 3)) (ht : (pc : Int) + off = (tgt : Int)) (kt : (y ≤ x) → et_M sc Y d mc ms Post (tgt) lv (st) h n nc ns) (kf : ¬ (y ≤ x) → et_M sc Y d mc ms Post (pc + 3) lv (st) h n nc ns) : et_M sc Y d mc ms Post (pc) lv (.int y :: .int x :: st) h n nc ns := by
  intro p l e R s m args below meth c B D dA ls H locs C hP hF hL hl
  exact lv_icmp_ge (rest := st.map (et_em B)) C.1 C.2.1 hdg ht (fun q => kt q p l e R s m args below meth c B D dA ls H locs C hP hF hL hl) (fun q => kf q p l e R s m args below meth c B D dA ls H locs C hP hF hL hl)
theorem et_if_gt {x : Int32} {off : Int} {tgt : Nat} (hdg : decode Y.2.1 pc = .ok (.ifCond .gt off, 3)) (ht : (pc : Int) + off = (tgt : Int)) (kt : (0 < x) → et_M sc Y d mc ms Post (tgt) lv (st) h n nc ns) (kf : ¬ (0 < x) → et_M sc Y d mc ms Post (pc + 3) lv (st) h n nc ns) : et_M sc Y d mc ms Post (pc) lv (.int x :: st) h n nc ns := by
  intro p l e R s m args below meth c B D dA ls H locs C hP hF hL hl
  exact lv_if_gt (rest := st.map (et_em B)) C.1 C.2.1 hdg ht (fun q => kt q p l e R s m args below meth c B D dA ls H locs C hP hF hL hl) (fun q => kf q p l e R s m args below meth c B D dA ls H locs C hP hF hL hl)
theorem et_icmp_gt {x y : Int32} {off : Int} {tgt : Nat} (hdg : decode Y.2.1 pc = .ok (.if_icmp .gt off, 3)) (ht : (pc : Int) + off = (tgt : Int)) (kt : (y < x) → et_M sc Y d mc ms Post (tgt) lv (st) h n nc ns) (kf : ¬ (y < x) → et_M sc Y d mc ms Post (pc + 3) lv (st) h n nc ns) : et_M sc Y d mc ms Post (pc) lv (.int y :: .int x :: st) h n nc ns := by
  intro p l e R s m args below meth c B D dA ls H locs C hP hF hL hl
  exact lv_icmp_gt (rest := st.map (et_em B)) C.1 C.2.1 hdg ht (fun q => kt q p l e R s m args below meth c B D dA ls H locs C hP hF hL hl) (fun q => kf q p l e R s m args below meth c B D dA ls H locs C hP hF hL hl)
theorem et_if_le {x : Int32} {off : Int} {tgt : Nat} (hdg : decode Y.2.1 pc = .ok (.ifCond .le off, 3)) (ht : (pc : Int) + off = (tgt : Int)) (kt : (x ≤ 0) → et_M sc Y d mc ms Post (tgt) lv (st) h n nc ns) (kf : ¬ (x ≤ 0) → et_M sc Y d mc ms Post (pc + 3) lv (st) h n nc ns) : et_M sc Y d mc ms Post (pc) lv (.int x :: st) h n nc ns := by
  intro p l e R s m args below meth c B D dA ls H locs C hP hF hL hl
  exact lv_if_le (rest := st.map (et_em B)) C.1 C.2.1 hdg ht (fun q => kt q p l e R s m args below meth c B D dA ls H locs C hP hF hL hl) (fun q => kf q p l e R s m args below meth c B D dA ls H locs C hP hF hL hl)
theorem et_icmp_le {x y : Int32} {off : Int} {tgt : Nat} (hdg : decode Y.2.1 pc = .ok (.if_icmp .le off, 3)) (ht : (pc : Int) + off = (tgt : Int)) (kt : (x ≤ y) → et_M sc Y d mc ms Post (tgt) lv (st) h n nc ns) (kf : ¬ (x ≤ y) → et_M sc Y d mc ms Post (pc + 3) lv (st) h n nc ns) : et_M sc Y d mc ms Post (pc) lv (.int y :: .int x :: st) h n nc ns := by
  intro p l e R s m args below meth c B D dA ls H locs C hP hF hL hl
  exact lv_icmp_le (rest := st.map (et_em B)) C.1 C.2.1 hdg ht (fun q => kt q p l e R s m args below meth c B D dA ls H locs C hP hF hL hl) (fun q => kf q p l e R s m args below meth c B D dA ls H locs C hP hF hL hl)
theorem et_goto {off : Int} {tgt : Nat} (hdg : decode Y.2.1 pc = .ok (.goto off, 3)) (ht : (pc : Int) + off = (tgt : Int)) (k : et_M sc Y d mc ms Post (tgt) lv (st) h n nc ns) : et_M sc Y d mc ms Post (pc) lv (st) h n nc ns := by
  intro p l e R s m args below meth c B D dA ls H locs C hP hF hL hl
  exact lv_goto C.1 C.2.1 hdg ht (k p l e R s m args below meth c B D dA ls H locs C hP hF hL hl)
theorem et_ldc {index : Nat} {v : Int32} (hdg : decode Y.2.1 pc = .ok (.ldc index, 2)) (hw : Cond.constant Y.1.cls index v ∈ et_W) (k : et_M sc Y d mc ms Post (pc + 2) lv (.int v :: st) h n nc ns) : et_M sc Y d mc ms Post (pc) lv (st) h n nc ns := by
  intro p l e R s m args below meth c B D dA ls H locs C hP hF hL hl
  exact lv_ldc C.1 C.2.1 C.own (C.hts _ hw) hdg (k p l e R s m args below meth c B D dA ls H locs C hP hF hL hl)
theorem et_ldc2 {index : Nat} {v : Int64} (hdg : decode Y.2.1 pc = .ok (.ldc2_w index, 3)) (hw : Cond.constantLong Y.1.cls index v ∈ et_W) (k : et_M sc Y d mc ms Post (pc + 3) lv (.long v :: st) h n nc ns) : et_M sc Y d mc ms Post (pc) lv (st) h n nc ns := by
  intro p l e R s m args below meth c B D dA ls H locs C hP hF hL hl
  exact lv_ldc2 C.1 C.2.1 C.own (C.hts _ hw) hdg (k p l e R s m args below meth c B D dA ls H locs C hP hF hL hl)
theorem et_lookup {dflt : Int} {ps : Array (Int × Int)} {len : Nat} {x : Int32} {off : Int} {tgt : Nat} (hdg : decode Y.2.1 pc = .ok (.lookupswitch dflt ps, len)) (hp : (ps.toList.zip (ps.toList.drop 1)).all (fun (a, next) => a.1 < next.1) = true) (ho : Op.lookupswitch.offset ps.toList dflt x.toInt = off) (ht : (pc : Int) + off = (tgt : Int)) (k : et_M sc Y d mc ms Post (tgt) lv (st) h n nc ns) : et_M sc Y d mc ms Post (pc) lv (.int x :: st) h n nc ns := by
  intro p l e R s m args below meth c B D dA ls H locs C hP hF hL hl
  exact lv_lookup (rest := st.map (et_em B)) C.1 C.2.1 hdg hp ho ht (k p l e R s m args below meth c B D dA ls H locs C hP hF hL hl)
theorem et_tableOut {dflt lo hi : Int} {offs : Array Int} {len : Nat} {x : Int32} {tgt : Nat} (hdg : decode Y.2.1 pc = .ok (.tableswitch dflt lo hi offs, len)) (hx : x.toInt < lo ∨ hi < x.toInt) (ht : (pc : Int) + dflt = (tgt : Int)) (k : et_M sc Y d mc ms Post (tgt) lv (st) h n nc ns) : et_M sc Y d mc ms Post (pc) lv (.int x :: st) h n nc ns := by
  intro p l e R s m args below meth c B D dA ls H locs C hP hF hL hl
  exact lv_tableOut (rest := st.map (et_em B)) C.1 C.2.1 hdg hx ht (k p l e R s m args below meth c B D dA ls H locs C hP hF hL hl)
theorem et_tableIn {dflt lo hi : Int} {offs : Array Int} {len : Nat} {x : Int32} {off : Int} {tgt : Nat} (hdg : decode Y.2.1 pc = .ok (.tableswitch dflt lo hi offs, len)) (h1 : ¬ x.toInt < lo) (h2 : ¬ hi < x.toInt) (ho : offs[(x.toInt - lo).toNat]? = some off) (ht : (pc : Int) + off = (tgt : Int)) (k : et_M sc Y d mc ms Post (tgt) lv (st) h n nc ns) : et_M sc Y d mc ms Post (pc) lv (.int x :: st) h n nc ns := by
  intro p l e R s m args below meth c B D dA ls H locs C hP hF hL hl
  exact lv_tableIn (rest := st.map (et_em B)) C.1 C.2.1 hdg h1 h2 ho ht (k p l e R s m args below meth c B D dA ls H locs C hP hF hL hl)
theorem et_iret {v : Int32} (hdg : decode Y.2.1 pc = .ok (.ireturn, 1)) (hr : Y.2.2.2.1 = some .int) (h1 : nc ≤ mc) (h2 : ns ≤ ms) (hp : Post (.inl (some (.int v))) h n) : et_M sc Y d mc ms Post (pc) lv ([.int v]) h n nc ns := by
  intro p l e R s m args below meth c B D dA ls H locs C hP hF hL hl
  refine W.widen h1 h2 (et_mono (fun t ht => et_Q_of ht) (W.iret (v := v) (free := fun q => B ≤ q) C.1 C.2.1 (C.ret.trans hr) (fun t ht hW => ⟨⟨_, h, n, hp, by rw [ht]; exact hP, rfl⟩, fun q hq => by rw [ht]; exact hF q hq⟩) hL hdg (hlocks := C.locks)))
theorem et_zret {v : Int32} (hdg : decode Y.2.1 pc = .ok (.ireturn, 1)) (hr : Y.2.2.2.1 = some .boolean) (hb : narrow .boolean (.int v) = .int v) (h1 : nc ≤ mc) (h2 : ns ≤ ms) (hp : Post (.inl (some (.int v))) h n) : et_M sc Y d mc ms Post (pc) lv ([.int v]) h n nc ns := by
  intro p l e R s m args below meth c B D dA ls H locs C hP hF hL hl
  refine W.widen h1 h2 (et_mono (fun t ht => et_Q_of ht) (W.zret (v := v) (ty := .boolean) (free := fun q => B ≤ q) C.1 C.2.1 (C.ret.trans hr) hb (fun t ht hW => ⟨⟨_, h, n, hp, by rw [ht]; exact hP, rfl⟩, fun q hq => by rw [ht]; exact hF q hq⟩) hL hdg (hlocks := C.locks)))
theorem et_lret {v : Int64} (hdg : decode Y.2.1 pc = .ok (.lreturn, 1)) (hr : Y.2.2.2.1 = some .long) (h1 : nc ≤ mc) (h2 : ns ≤ ms) (hp : Post (.inl (some (.long v))) h n) : et_M sc Y d mc ms Post (pc) lv ([.long v]) h n nc ns := by
  intro p l e R s m args below meth c B D dA ls H locs C hP hF hL hl
  refine W.widen h1 h2 (et_mono (fun t ht => et_Q_of ht) (W.lret (v := v) (free := fun q => B ≤ q) C.1 C.2.1 (C.ret.trans hr) (fun t ht hW => ⟨⟨_, h, n, hp, by rw [ht]; exact hP, rfl⟩, fun q hq => by rw [ht]; exact hF q hq⟩) hL hdg (hlocks := C.locks)))
theorem et_vret  (hdg : decode Y.2.1 pc = .ok (.return_, 1)) (hr : Y.2.2.2.1 = none) (h1 : nc ≤ mc) (h2 : ns ≤ ms) (hp : Post (.inl none) h n) : et_M sc Y d mc ms Post (pc) lv ([]) h n nc ns := by
  intro p l e R s m args below meth c B D dA ls H locs C hP hF hL hl
  refine W.widen h1 h2 (et_mono (fun t ht => et_Q_of ht) (W.vret (free := fun q => B ≤ q) C.1 C.2.1 (C.ret.trans hr) (fun t ht hW => ⟨⟨_, h, n, hp, by rw [ht]; exact hP, rfl⟩, fun q hq => by rw [ht]; exact hF q hq⟩) hL hdg (hlocks := C.locks)))
theorem et_aret {v : Nat} {rt : FieldType} (hdg : decode Y.2.1 pc = .ok (.areturn, 1)) (hr : Y.2.2.2.1 = some rt) (hrt : (∃ n, rt = .object n) ∨ ∃ t, rt = .array t) (h1 : nc ≤ mc) (h2 : ns ≤ ms) (hp : Post (.inl (some (.ref v))) h n) : et_M sc Y d mc ms Post (pc) lv ([.ref v]) h n nc ns := by
  intro p l e R s m args below meth c B D dA ls H locs C hP hF hL hl
  refine W.widen h1 h2 (et_mono (fun t ht => et_Q_of ht) (W.aret (v := .ref (B + v)) (free := fun q => B ≤ q) C.1 C.2.1 (C.ret.trans hr) hrt (Or.inr ⟨_, rfl⟩) (fun t ht hW => ⟨⟨_, h, n, hp, by rw [ht]; exact hP, rfl⟩, fun q hq => by rw [ht]; exact hF q hq⟩) hL hdg (hlocks := C.locks)))
theorem et_getf {k ci index : Nat} (j : Nat) {fs : List Value} {Cn : String} {T : u_T} {N : Nat} {v : Value} (hdg : decode Y.2.1 pc = .ok (.getfield index, 3)) (hh : h k = .inr (ci, fs)) (hc : et_cl[ci]? = some (Cn, T, N)) (hin : ∀ w ∈ u_ws Cn T N, w ∈ et_W) (hj : j < N) (hlk : Cond.fieldLink Y.1.cls index (T j).1 (T j).2.1 (T j).2.2.1 ∈ et_W) (hv : fs[j]? = some v) (kk : et_M sc Y d mc ms Post (pc + 3) lv (v :: st) h n nc ns) : et_M sc Y d mc ms Post (pc) lv (.ref k :: st) h n nc ns := by
  intro p l e R s m args below meth c B D dA ls H locs C hP hF hL hl
  obtain ⟨-, cell, q1, q2, q3, q4⟩ := hP.obj hh hc
  obtain ⟨hS, hfc, kC, hkC, hkind⟩ := C.kk.1 ci _ hc
  obtain ⟨cf, kf, fi, f, hi, hsl⟩ := hS j hj
  refine W.getf (v := et_em B v) (a := B + k) (rest := st.map (et_em B)) C.1 C.2.1 C.own (C.hts _ hlk) hi (u_facts hfc hkC (u_lays C.hts hin hj) hi).1 q1 (by rw [q3]; exact fun h => by cases h) ?_ rfl rfl hdg (kk p l e R s m args below meth c B D dA ls H locs C hP hF hL hl)
  rw [hsl, q4 j hj]
  simp [vp_V, hv]
theorem et_getN {k ci index : Nat} (j : Nat) {fs : List Value} {Cn : String} {T : u_T} {N : Nat} {v : Value} (hdg : decode Y.2.1 pc = .ok (.getfield index, 3)) (hh : h k = .inr (ci, fs)) (hc : et_cl[ci]? = some (Cn, T, N)) (hin : ∀ w ∈ u_ws Cn T N, w ∈ et_W) (hj : j < N) (host : String) (hlk : Cond.fieldLinkNest Y.1.cls index (T j).1 (T j).2.1 (T j).2.2.1 host ∈ et_NST) (hv : fs[j]? = some v) (kk : et_M sc Y d mc ms Post (pc + 3) lv (v :: st) h n nc ns) : et_M sc Y d mc ms Post (pc) lv (.ref k :: st) h n nc ns := by
  intro p l e R s m args below meth c B D dA ls H locs C hP hF hL hl
  obtain ⟨-, cell, q1, q2, q3, q4⟩ := hP.obj hh hc
  obtain ⟨hS, hfc, kC, hkC, hkind⟩ := C.kk.1 ci _ hc
  obtain ⟨cf, kf, fi, f, hi, hsl⟩ := hS j hj
  refine va_Wgetf (v := et_em B v) (a := B + k) (rest := st.map (et_em B)) C.1 C.2.1 C.own (va_Nw.use rfl (C.wd.2.1 _ hlk)) hi (u_facts hfc hkC (u_lays C.hts hin hj) hi).1 q1 (by rw [q3]; exact fun h => by cases h) ?_ rfl rfl hdg (kk p l e R s m args below meth c B D dA ls H locs C hP hF hL hl)
  rw [hsl, q4 j hj]
  simp [vp_V, hv]
theorem et_putf {k ci index : Nat} (j : Nat) {fs : List Value} {Cn : String} {T : u_T} {N : Nat} {v : Value} {ty0 : Nat → FieldType} {ty : FieldType} (hdg : decode Y.2.1 pc = .ok (.putfield index, 3)) (hh : h k = .inr (ci, fs)) (hc : et_cl[ci]? = some (Cn, T, N)) (hin : ∀ w ∈ u_ws Cn T N, w ∈ et_W) (hty : ∀ k, k < N → parseFieldDescriptor (T k).2.2.1 = some (ty0 k)) (hnm : ∀ a, a < N → ∀ b, b < N → a ≠ b → (T a).2.1 ≠ (T b).2.1) (hj : j < N) (hlk : Cond.fieldLink Y.1.cls index (T j).1 (T j).2.1 (T j).2.2.1 ∈ et_W) (hfin : (T j).2.2.2 = false) (hd : ty0 j = ty) (hn : ∀ B, narrow ty (et_em B v) = et_em B v) (hfit : ∀ B, fits ty (et_em B v) = true) (hfl : j < fs.length) {fs' : List Value} (hfs : fs.set j v = fs') (kk : et_M sc Y d mc ms Post (pc + 3) lv (st) (va_up h k (.inr (ci, fs'))) n nc ns) : et_M sc Y d mc ms Post (pc) lv (v :: .ref k :: st) h n nc ns := by
  intro p l e R s m args below meth c B D dA ls H locs C hP hF hL hl
  subst hfs; subst hd
  have hd := hty j hj
  have hap := va_apart (own := Y.1.cls) C.hts hin ty0 hty hnm C.kk hc
  obtain ⟨hk, cell, q1, q2, q3, q4⟩ := hP.obj hh hc
  obtain ⟨hS, hfc, kC, hkC, hkind⟩ := C.kk.1 ci _ hc
  obtain ⟨cf, kf, fi, f, hi, hsl⟩ := hS j hj
  have hlay := C.hts _ (hin _ (u_in_lay hj))
  unfold u_lay at hlay
  rw [if_neg (by rw [hfin]; decide)] at hlay
  have hst := (u_facts hfc hkC (u_lays C.hts hin hj) hi).1
  have h6 := u_store hfc hkC hkind hlay hi hd (hn B) (hfit B)
  refine W.putK (v := et_em B v) (a := B + k) (rest := st.map (et_em B)) C.1 C.2.1 (f := f) ⟨C.own, C.hts _ hlk, ⟨_, _, _, hi⟩, hst⟩ (by rw [q2]; exact h6) q1 q3 (by rw [hsl]; exact k2_hasslot (q4 j hj)) rfl rfl hdg fun H' e1 e2 e3 => ?_
  rw [hsl] at e1
  refine kk p l e R s m args below meth c B D dA ls H' _ C (hP.put hk ⟨_, hc, t_OB.to (V := updV (vp_V (fs.map (et_em B))) j (et_em B v)) ⟨_, e1, q2, q3, t_set q4 hap hj (et_em B v)⟩ (fun i _ => ?_)⟩ e2 e3) (fun q hq => (e3 q (et_ne hq)).trans (hF q hq)) (fun q hq => ?_) hl
  · rw [vp_updV_set (by simpa using hfl) (et_em B v) i, List.map_set]
  · rcases List.mem_append.mp hq with h1 | h1
    · exact hL q h1
    · rw [List.mem_singleton.mp h1]; exact Nat.le_add_right B k
theorem et_putN {k ci index : Nat} (j : Nat) {fs : List Value} {Cn : String} {T : u_T} {N : Nat} {v : Value} {ty0 : Nat → FieldType} {ty : FieldType} (hdg : decode Y.2.1 pc = .ok (.putfield index, 3)) (hh : h k = .inr (ci, fs)) (hc : et_cl[ci]? = some (Cn, T, N)) (hin : ∀ w ∈ u_ws Cn T N, w ∈ et_W) (hty : ∀ k, k < N → parseFieldDescriptor (T k).2.2.1 = some (ty0 k)) (hnm : ∀ a, a < N → ∀ b, b < N → a ≠ b → (T a).2.1 ≠ (T b).2.1) (hj : j < N) (host : String) (hlk : Cond.fieldLinkNest Y.1.cls index (T j).1 (T j).2.1 (T j).2.2.1 host ∈ et_NST) (hfin : (T j).2.2.2 = false) (hd : ty0 j = ty) (hn : ∀ B, narrow ty (et_em B v) = et_em B v) (hfit : ∀ B, fits ty (et_em B v) = true) (hfl : j < fs.length) {fs' : List Value} (hfs : fs.set j v = fs') (kk : et_M sc Y d mc ms Post (pc + 3) lv (st) (va_up h k (.inr (ci, fs'))) n nc ns) : et_M sc Y d mc ms Post (pc) lv (v :: .ref k :: st) h n nc ns := by
  intro p l e R s m args below meth c B D dA ls H locs C hP hF hL hl
  subst hfs; subst hd
  have hd := hty j hj
  have hap := va_apart (own := Y.1.cls) C.hts hin ty0 hty hnm C.kk hc
  obtain ⟨hk, cell, q1, q2, q3, q4⟩ := hP.obj hh hc
  obtain ⟨hS, hfc, kC, hkC, hkind⟩ := C.kk.1 ci _ hc
  obtain ⟨cf, kf, fi, f, hi, hsl⟩ := hS j hj
  have hlay := C.hts _ (hin _ (u_in_lay hj))
  unfold u_lay at hlay
  rw [if_neg (by rw [hfin]; decide)] at hlay
  have hst := (u_facts hfc hkC (u_lays C.hts hin hj) hi).1
  have h6 := u_store hfc hkC hkind hlay hi hd (hn B) (hfit B)
  refine va_WputK (v := et_em B v) (a := B + k) (rest := st.map (et_em B)) C.1 C.2.1 (f := f) C.own (va_Nw.use rfl (C.wd.2.1 _ hlk)) hi hst (by rw [q2]; exact h6) q1 q3 (by rw [hsl]; exact k2_hasslot (q4 j hj)) rfl rfl hdg fun H' e1 e2 e3 => ?_
  rw [hsl] at e1
  refine kk p l e R s m args below meth c B D dA ls H' _ C (hP.put hk ⟨_, hc, t_OB.to (V := updV (vp_V (fs.map (et_em B))) j (et_em B v)) ⟨_, e1, q2, q3, t_set q4 hap hj (et_em B v)⟩ (fun i _ => ?_)⟩ e2 e3) (fun q hq => (e3 q (et_ne hq)).trans (hF q hq)) (fun q hq => ?_) hl
  · rw [vp_updV_set (by simpa using hfl) (et_em B v) i, List.map_set]
  · rcases List.mem_append.mp hq with h1 | h1
    · exact hL q h1
    · rw [List.mem_singleton.mp h1]; exact Nat.le_add_right B k
theorem et_putF {k ci index : Nat} (j : Nat) {fs : List Value} {Cn : String} {T : u_T} {N : Nat} {v : Value} {ty0 : Nat → FieldType} {ty : FieldType} (hdg : decode Y.2.1 pc = .ok (.putfield index, 3)) (hh : h k = .inr (ci, fs)) (hc : et_cl[ci]? = some (Cn, T, N)) (hin : ∀ w ∈ u_ws Cn T N, w ∈ et_W) (hty : ∀ k, k < N → parseFieldDescriptor (T k).2.2.1 = some (ty0 k)) (hnm : ∀ a, a < N → ∀ b, b < N → a ≠ b → (T a).2.1 ≠ (T b).2.1) (hj : j < N) (hlk : Cond.fieldLink Y.1.cls index (T j).1 (T j).2.1 (T j).2.2.1 ∈ et_W) (hfin : (T j).2.2.2 = true) (hini : Y.1.name = "<init>") (hdecl : (T j).1 = Y.1.cls) (hd : ty0 j = ty) (hn : ∀ B, narrow ty (et_em B v) = et_em B v) (hfit : ∀ B, fits ty (et_em B v) = true) (hfl : j < fs.length) {fs' : List Value} (hfs : fs.set j v = fs') (kk : et_M sc Y d mc ms Post (pc + 3) lv (st) (va_up h k (.inr (ci, fs'))) n nc ns) : et_M sc Y d mc ms Post (pc) lv (v :: .ref k :: st) h n nc ns := by
  intro p l e R s m args below meth c B D dA ls H locs C hP hF hL hl
  subst hfs; subst hd
  have hd := hty j hj
  have hap := va_apart (own := Y.1.cls) C.hts hin ty0 hty hnm C.kk hc
  obtain ⟨hk, cell, q1, q2, q3, q4⟩ := hP.obj hh hc
  obtain ⟨hS, hfc, kC, hkC, hkind⟩ := C.kk.1 ci _ hc
  obtain ⟨cf, kf, fi, f, hi, hsl⟩ := hS j hj
  have hlay := C.hts _ (hin _ (u_in_lay hj))
  unfold u_lay at hlay
  rw [if_pos hfin] at hlay
  have hst := (u_facts hfc hkC (u_lays C.hts hin hj) hi).1
  have hcf : m.cls = cf := by
    obtain ⟨_, _, c', _, _, _, -, -, hf', -, -, -, hown2, -⟩ := Cond.laysFinal_spec hlay
    have e1 : c' = cf := by have := hi.symm.trans hf'; simp at this; exact this.1.symm
    rw [hdecl] at hown2
    rw [← e1]; exact Option.some.inj (C.own.symm.trans hown2)
  have h6 := u_fits hfc hkC hkind (Or.inr hlay) hi hd (hn B) (hfit B)
  refine W.putFinK (v := et_em B v) (a := B + k) (rest := st.map (et_em B)) C.1 C.2.1 C.own (C.hts _ hlk) hi hst hcf (C.name.trans hini) (by rw [q2]; exact h6) q1 q3 (by rw [hsl]; exact k2_hasslot (q4 j hj)) rfl rfl hdg fun H' e1 e2 e3 => ?_
  rw [hsl] at e1
  refine kk p l e R s m args below meth c B D dA ls H' _ C (hP.put hk ⟨_, hc, t_OB.to (V := updV (vp_V (fs.map (et_em B))) j (et_em B v)) ⟨_, e1, q2, q3, t_set q4 hap hj (et_em B v)⟩ (fun i _ => ?_)⟩ e2 e3) (fun q hq => (e3 q (et_ne hq)).trans (hF q hq)) (fun q hq => ?_) hl
  · rw [vp_updV_set (by simpa using hfl) (et_em B v) i, List.map_set]
  · rcases List.mem_append.mp hq with h1 | h1
    · exact hL q h1
    · rw [List.mem_singleton.mp h1]; exact Nat.le_add_right B k
theorem et_iald {k N : Nat} {f : Nat → Int32} {i : Int32} (hdg : decode Y.2.1 pc = .ok (.iaload, 1)) (hh : h k = .inl (0, N, .inl f)) (hin : vp_in i N) (kk : et_M sc Y d mc ms Post (pc + 1) lv (.int (f i.toNatClampNeg) :: st) h n nc ns) : et_M sc Y d mc ms Post (pc) lv (.int i :: .ref k :: st) h n nc ns := by
  intro p l e R s m args below meth c B D dA ls H locs C hP hF hL hl
  have q1 : H[B + k]? = some (arrV (dA 0) N (fun j => .int (f j))) := (hP.arr hh).2
  have hlt : i.toNatClampNeg < N := Nat.not_le.mp fun q => hin (Or.inr q)
  exact W.iald (v := .int (f i.toNatClampNeg)) (a := B + k) (rest := st.map (et_em B)) C.1 C.2.1 q1 ((C.kk.2 0 _ rfl).1 N (fun j => .int (f j))) (fun q => by cases q) (by show ¬ (i < 0 ∨ (arrV _ _ _).slots.size ≤ _); rw [arrV_size]; exact hin) (by show (arrV _ _ _).slots[_]? = _; rw [arrV_read _ _ hlt]) rfl rfl hdg (kk p l e R s m args below meth c B D dA ls H locs C hP hF hL hl)
theorem et_lald {k N : Nat} {f : Nat → Int64} {i : Int32} (hdg : decode Y.2.1 pc = .ok (.laload, 1)) (hh : h k = .inl (1, N, .inr (.inl f))) (hin : vp_in i N) (kk : et_M sc Y d mc ms Post (pc + 1) lv (.long (f i.toNatClampNeg) :: st) h n nc ns) : et_M sc Y d mc ms Post (pc) lv (.int i :: .ref k :: st) h n nc ns := by
  intro p l e R s m args below meth c B D dA ls H locs C hP hF hL hl
  have q1 : H[B + k]? = some (arrV (dA 1) N (fun j => .long (f j))) := (hP.arr hh).2
  have hlt : i.toNatClampNeg < N := Nat.not_le.mp fun q => hin (Or.inr q)
  exact W.lald (v := .long (f i.toNatClampNeg)) (a := B + k) (rest := st.map (et_em B)) C.1 C.2.1 q1 ((C.kk.2 1 _ rfl).1 N (fun j => .long (f j))) (fun q => by cases q) (by show ¬ (i < 0 ∨ (arrV _ _ _).slots.size ≤ _); rw [arrV_size]; exact hin) (by show (arrV _ _ _).slots[_]? = _; rw [arrV_read _ _ hlt]) rfl rfl hdg (kk p l e R s m args below meth c B D dA ls H locs C hP hF hL hl)
theorem et_zald {k N : Nat} {f : Nat → Int32} {i : Int32} (hdg : decode Y.2.1 pc = .ok (.baload, 1)) (hh : h k = .inl (2, N, .inl f)) (hin : vp_in i N) (kk : et_M sc Y d mc ms Post (pc + 1) lv (.int (f i.toNatClampNeg) :: st) h n nc ns) : et_M sc Y d mc ms Post (pc) lv (.int i :: .ref k :: st) h n nc ns := by
  intro p l e R s m args below meth c B D dA ls H locs C hP hF hL hl
  have q1 : H[B + k]? = some (arrV (dA 2) N (fun j => .int (f j))) := (hP.arr hh).2
  have hlt : i.toNatClampNeg < N := Nat.not_le.mp fun q => hin (Or.inr q)
  exact W.zald (v := .int (f i.toNatClampNeg)) (a := B + k) (rest := st.map (et_em B)) C.1 C.2.1 q1 ((C.kk.2 2 _ rfl).1 N (fun j => .int (f j))) (fun q => by cases q) (by show ¬ (i < 0 ∨ (arrV _ _ _).slots.size ≤ _); rw [arrV_size]; exact hin) (by show (arrV _ _ _).slots[_]? = _; rw [arrV_read _ _ hlt]) rfl rfl hdg (kk p l e R s m args below meth c B D dA ls H locs C hP hF hL hl)
theorem et_iast {k N : Nat} {f : Nat → Int32} {i : Int32} {x : Int32} (hdg : decode Y.2.1 pc = .ok (.iastore, 1)) (hh : h k = .inl (0, N, .inl f)) (hin : vp_in i N) (kk : et_M sc Y d mc ms Post (pc + 1) lv (st) (va_up h k (.inl (0, N, .inl (upd f i.toNatClampNeg x)))) n nc ns) : et_M sc Y d mc ms Post (pc) lv (.int x :: .int i :: .ref k :: st) h n nc ns := by
  intro p l e R s m args below meth c B D dA ls H locs C hP hF hL hl
  have hk := (hP.arr hh).1
  have q1 : H[B + k]? = some (arrV (dA 0) N (fun j => .int (f j))) := (hP.arr hh).2
  refine W.iast (a := B + k) (rest := st.map (et_em B)) C.1 C.2.1 q1 ((C.kk.2 0 _ rfl).1 N (fun j => .int (f j))) (fun q => by cases q) (by show ¬ (i < 0 ∨ (arrV _ _ _).slots.size ≤ _); rw [arrV_size]; exact hin) rfl rfl hdg fun H1 e1 e2 e3 => ?_
  refine kk p l e R s m args below meth c B D dA ls H1 _ C (hP.put hk ?_ e2 e3) (fun q hq => (e3 q (et_ne hq)).trans (hF q hq)) (fun q hq => ?_) hl
  · show H1[B + k]? = some (arrV (dA 0) N (fun j => .int ((upd f i.toNatClampNeg x) j)))
    rw [e1]
    show some ((arrV (dA 0) N (fun j => .int (f j))).setSlot _ _) = _
    rw [arrV_store]
    congr 2
    funext q
    by_cases hq : q = i.toNatClampNeg
    · subst hq; simp [updV, upd]
    · simp [updV, upd, hq]
  · rcases List.mem_append.mp hq with h1 | h1
    · exact hL q h1
    · rw [List.mem_singleton.mp h1]; exact Nat.le_add_right B k
theorem et_last {k N : Nat} {f : Nat → Int64} {i : Int32} {x : Int64} (hdg : decode Y.2.1 pc = .ok (.lastore, 1)) (hh : h k = .inl (1, N, .inr (.inl f))) (hin : vp_in i N) (kk : et_M sc Y d mc ms Post (pc + 1) lv (st) (va_up h k (.inl (1, N, .inr (.inl (vp_updL f i.toNatClampNeg x))))) n nc ns) : et_M sc Y d mc ms Post (pc) lv (.long x :: .int i :: .ref k :: st) h n nc ns := by
  intro p l e R s m args below meth c B D dA ls H locs C hP hF hL hl
  have hk := (hP.arr hh).1
  have q1 : H[B + k]? = some (arrV (dA 1) N (fun j => .long (f j))) := (hP.arr hh).2
  refine W.last (a := B + k) (rest := st.map (et_em B)) C.1 C.2.1 q1 ((C.kk.2 1 _ rfl).1 N (fun j => .long (f j))) (fun q => by cases q) (by show ¬ (i < 0 ∨ (arrV _ _ _).slots.size ≤ _); rw [arrV_size]; exact hin) rfl rfl hdg fun H1 e1 e2 e3 => ?_
  refine kk p l e R s m args below meth c B D dA ls H1 _ C (hP.put hk ?_ e2 e3) (fun q hq => (e3 q (et_ne hq)).trans (hF q hq)) (fun q hq => ?_) hl
  · show H1[B + k]? = some (arrV (dA 1) N (fun j => .long ((vp_updL f i.toNatClampNeg x) j)))
    rw [e1]
    show some ((arrV (dA 1) N (fun j => .long (f j))).setSlot _ _) = _
    rw [arrV_store]
    congr 2
    funext q
    by_cases hq : q = i.toNatClampNeg
    · subst hq; simp [updV, vp_updL]
    · simp [updV, vp_updL, hq]
  · rcases List.mem_append.mp hq with h1 | h1
    · exact hL q h1
    · rw [List.mem_singleton.mp h1]; exact Nat.le_add_right B k
theorem et_zast {k N : Nat} {f : Nat → Int32} {i : Int32} {x : Int32} (hdg : decode Y.2.1 pc = .ok (.bastore, 1)) (hh : h k = .inl (2, N, .inl f)) (hin : vp_in i N) (kk : et_M sc Y d mc ms Post (pc + 1) lv (st) (va_up h k (.inl (2, N, .inl (upd f i.toNatClampNeg (vp_nar .boolean x))))) n nc ns) : et_M sc Y d mc ms Post (pc) lv (.int x :: .int i :: .ref k :: st) h n nc ns := by
  intro p l e R s m args below meth c B D dA ls H locs C hP hF hL hl
  have hk := (hP.arr hh).1
  have q1 : H[B + k]? = some (arrV (dA 2) N (fun j => .int (f j))) := (hP.arr hh).2
  refine W.zast (a := B + k) (rest := st.map (et_em B)) C.1 C.2.1 q1 ((C.kk.2 2 _ rfl).1 N (fun j => .int (f j))) (fun q => by cases q) (by show ¬ (i < 0 ∨ (arrV _ _ _).slots.size ≤ _); rw [arrV_size]; exact hin) rfl rfl hdg fun H1 e1 e2 e3 => ?_
  refine kk p l e R s m args below meth c B D dA ls H1 _ C (hP.put hk ?_ e2 e3) (fun q hq => (e3 q (et_ne hq)).trans (hF q hq)) (fun q hq => ?_) hl
  · show H1[B + k]? = some (arrV (dA 2) N (fun j => .int ((upd f i.toNatClampNeg (vp_nar .boolean x)) j)))
    rw [e1]
    show some ((arrV (dA 2) N (fun j => .int (f j))).setSlot _ _) = _
    rw [arrV_store]
    congr 2
    funext q
    by_cases hq : q = i.toNatClampNeg
    · subst hq; simp [updV, upd, vp_nar] <;> rfl
    · simp [updV, upd, vp_nar, hq]
  · rcases List.mem_append.mp hq with h1 | h1
    · exact hL q h1
    · rw [List.mem_singleton.mp h1]; exact Nat.le_add_right B k
theorem et_alen {k N : Nat} {f : Nat → Int32} {v : Int32} (hdg : decode Y.2.1 pc = .ok (.arraylength, 1)) (hh : h k = .inl (0, N, .inl f)) (hv : Int32.ofNat N = v) (kk : et_M sc Y d mc ms Post (pc + 1) lv (.int v :: st) h n nc ns) : et_M sc Y d mc ms Post (pc) lv (.ref k :: st) h n nc ns := by
  intro p l e R s m args below meth c B D dA ls H locs C hP hF hL hl
  have q1 : H[B + k]? = some (arrV (dA 0) N (fun j => .int (f j))) := (hP.arr hh).2
  subst hv
  exact W.alen (n := Int32.ofNat N) (a := B + k) (rest := st.map (et_em B)) C.1 C.2.1 q1 ((C.kk.2 0 _ rfl).1 N (fun j => .int (f j))) (by show (arrV _ _ _).slots.size.toInt32 = _; rw [arrV_size] <;> rfl) rfl rfl hdg (kk p l e R s m args below meth c B D dA ls H locs C hP hF hL hl)
theorem et_alenL {k N : Nat} {f : Nat → Int64} {v : Int32} (hdg : decode Y.2.1 pc = .ok (.arraylength, 1)) (hh : h k = .inl (1, N, .inr (.inl f))) (hv : Int32.ofNat N = v) (kk : et_M sc Y d mc ms Post (pc + 1) lv (.int v :: st) h n nc ns) : et_M sc Y d mc ms Post (pc) lv (.ref k :: st) h n nc ns := by
  intro p l e R s m args below meth c B D dA ls H locs C hP hF hL hl
  have q1 : H[B + k]? = some (arrV (dA 1) N (fun j => .long (f j))) := (hP.arr hh).2
  subst hv
  exact W.alen (n := Int32.ofNat N) (a := B + k) (rest := st.map (et_em B)) C.1 C.2.1 q1 ((C.kk.2 1 _ rfl).1 N (fun j => .long (f j))) (by show (arrV _ _ _).slots.size.toInt32 = _; rw [arrV_size] <;> rfl) rfl rfl hdg (kk p l e R s m args below meth c B D dA ls H locs C hP hF hL hl)
theorem et_sload {z : Fin 4} {i b : Nat} (hdg : decode Y.2.1 pc = .ok (.aload_n z, 1)) (hi : (z : Nat) = i) (hj : lv[i]? = some (some (.retAddr b))) (k : et_M sc Y d mc ms Post (pc + 1) lv (.retAddr b :: st) h n nc ns) : et_M sc Y d mc ms Post (pc) lv (st) h n nc ns := by
  intro p l e R s m args below meth c B D dA ls H locs C hP hF hL hl
  exact lv_aload_n (x := b) (rest := st.map (et_em B)) C.1 C.2.1 hdg hi (et_ld hl hj) (k p l e R s m args below meth c B D dA ls H locs C hP hF hL hl)
theorem et_sld {i : Int32} (hdg : decode Y.2.1 pc = .ok (.iaload, 1)) (hin : vp_in i sc.2.1) (kk : et_M sc Y d mc ms Post (pc + 1) lv (.int (sc.2.2 i.toNatClampNeg) :: st) h n nc ns) : et_M sc Y d mc ms Post (pc) lv (.int i :: .retAddr sc.1 :: st) h n nc ns := by
  intro p l e R s m args below meth c B D dA ls H locs C hP hF hL hl
  obtain ⟨⟨scr, g1, g2, g3, g4, g5⟩, g6, -⟩ := C.wd.2.2.2.2.2
  have hlt : i.toNatClampNeg < sc.2.1 := Nat.not_le.mp fun q => hin (Or.inr q)
  exact W.iald (v := .int (sc.2.2 i.toNatClampNeg)) (a := sc.1) (rest := st.map (et_em B)) C.1 C.2.1 (by rw [hF _ g6]; exact g1) g2 g3 (by rw [g4]; exact hin) (g5 _ hlt) rfl rfl hdg (kk p l e R s m args below meth c B D dA ls H locs C hP hF hL hl)
theorem et_slen (hdg : decode Y.2.1 pc = .ok (.arraylength, 1)) (kk : et_M sc Y d mc ms Post (pc + 1) lv (.int (Int32.ofNat sc.2.1) :: st) h n nc ns) : et_M sc Y d mc ms Post (pc) lv (.retAddr sc.1 :: st) h n nc ns := by
  intro p l e R s m args below meth c B D dA ls H locs C hP hF hL hl
  obtain ⟨⟨scr, g1, g2, g3, g4, g5⟩, g6, -⟩ := C.wd.2.2.2.2.2
  exact W.alen (n := Int32.ofNat sc.2.1) (a := sc.1) (rest := st.map (et_em B)) C.1 C.2.1 (by rw [hF _ g6]; exact g1) g2 (by rw [g4] <;> rfl) rfl rfl hdg (kk p l e R s m args below meth c B D dA ls H locs C hP hF hL hl)
end ETR
