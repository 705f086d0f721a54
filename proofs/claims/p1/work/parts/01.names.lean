/-! ===== my names: the words that stay true in every callee; classes; methods ===== -/
def et_gd (w : Cond) : Bool := (w.onTables && w.keeps) || (match w with | .arrayClass _ => true | _ => false)
def et_W : List Cond := lw_tbl.filter et_gd
theorem et_good : ∀ w ∈ et_W, (w.onTables && w.keeps) = true ∨ ∃ ty, w = .arrayClass ty := by
  intro w hw
  have h := (List.mem_filter.mp hw).2
  unfold et_gd at h
  rcases Bool.or_eq_true_iff.mp h with h1 | h1
  · exact Or.inl h1
  · cases w <;> first | exact Or.inr ⟨_, rfl⟩ | cases h1
theorem et_in {w : Cond} (i : Nat) (h : lw_tbl[i]? = some w) (hg : et_gd w = true) : w ∈ et_W := List.mem_filter.mpr ⟨List.mem_of_getElem? h, hg⟩
theorem et_ins {ws : List Cond} (ps : List Nat) (hp : ws = ps.filterMap (fun i => lw_tbl[i]?)) (hg : ws.all et_gd = true) : ∀ w ∈ ws, w ∈ et_W := by
  intro w hw
  have h1 := List.all_eq_true.mp hg w hw
  rw [hp] at hw
  obtain ⟨i, -, hi⟩ := List.mem_filterMap.mp hw
  exact et_in i hi h1
def F_C : u_T := fun k => match k with
  | 0 => ("EqualTerms$Cheapest", "prices", "[I", true)
  | 1 => ("EqualTerms$Cheapest", "costs", "[J", true)
  | 2 => ("EqualTerms$Cheapest", "lengths", "[J", true)
  | 3 => ("EqualTerms$Cheapest", "terms", "[[I", true)
  | 4 => ("EqualTerms$Cheapest", "graph", "LEqualTerms$Graph;", true)
  | _ => ("EqualTerms$Cheapest", "trial", "[I", true)
def ft_C : Nat → FieldType := fun k => match k with
  | 0 => .array .int
  | 1 => .array .long
  | 2 => .array .long
  | 3 => .array (.array .int)
  | 4 => .object "EqualTerms$Graph"
  | _ => .array .int
theorem nm_C : ∀ a, a < 6 → ∀ b, b < 6 → a ≠ b → (F_C a).2.1 ≠ (F_C b).2.1 := by decide +kernel
theorem ty_C : ∀ k, k < 6 → parseFieldDescriptor (F_C k).2.2.1 = some (ft_C k) := by decide +kernel
theorem in_C : ∀ w ∈ u_ws "EqualTerms$Cheapest" F_C 6, w ∈ et_W := et_ins [213, 215, 217, 219, 221, 223] (by decide +kernel) (by decide +kernel)
def F_G : u_T := fun k => match k with
  | 0 => ("EqualTerms$Graph", "signs", "[I", true)
  | 1 => ("EqualTerms$Graph", "lefts", "[I", true)
  | 2 => ("EqualTerms$Graph", "rights", "[I", true)
  | 3 => ("EqualTerms$Graph", "homes", "[I", true)
  | 4 => ("EqualTerms$Graph", "nodeCount", "I", false)
  | 5 => ("EqualTerms$Graph", "classCount", "I", false)
  | 6 => ("EqualTerms$Graph", "names", "[I", true)
  | _ => ("EqualTerms$Graph", "numbers", "[I", true)
def ft_G : Nat → FieldType := fun k => match k with
  | 0 => .array .int
  | 1 => .array .int
  | 2 => .array .int
  | 3 => .array .int
  | 4 => .int
  | 5 => .int
  | 6 => .array .int
  | _ => .array .int
theorem nm_G : ∀ a, a < 8 → ∀ b, b < 8 → a ≠ b → (F_G a).2.1 ≠ (F_G b).2.1 := by decide +kernel
theorem ty_G : ∀ k, k < 8 → parseFieldDescriptor (F_G k).2.2.1 = some (ft_G k) := by decide +kernel
theorem in_G : ∀ w ∈ u_ws "EqualTerms$Graph" F_G 8, w ∈ et_W := et_ins [132, 134, 136, 138, 140, 142, 144, 146] (by decide +kernel) (by decide +kernel)
def F_R : u_T := fun k => match k with
  | 0 => ("EqualTerms$Round", "changed", "Z", false)
  | 1 => ("EqualTerms$Round", "graph", "LEqualTerms$Graph;", true)
  | 2 => ("EqualTerms$Round", "walk", "LEqualTerms$Walk;", true)
  | 3 => ("EqualTerms$Round", "seats", "[I", true)
  | 4 => ("EqualTerms$Round", "listed", "[I", true)
  | _ => ("EqualTerms$Round", "begins", "[I", true)
def ft_R : Nat → FieldType := fun k => match k with
  | 0 => .boolean
  | 1 => .object "EqualTerms$Graph"
  | 2 => .object "EqualTerms$Walk"
  | 3 => .array .int
  | 4 => .array .int
  | _ => .array .int
theorem nm_R : ∀ a, a < 6 → ∀ b, b < 6 → a ≠ b → (F_R a).2.1 ≠ (F_R b).2.1 := by decide +kernel
theorem ty_R : ∀ k, k < 6 → parseFieldDescriptor (F_R k).2.2.1 = some (ft_R k) := by decide +kernel
theorem in_R : ∀ w ∈ u_ws "EqualTerms$Round" F_R 6, w ∈ et_W := et_ins [179, 181, 183, 185, 187, 189] (by decide +kernel) (by decide +kernel)
def F_U : u_T := fun k => match k with
  | 0 => ("EqualTerms$Rule", "characters", "[I", true)
  | 1 => ("EqualTerms$Rule", "middle", "I", true)
  | 2 => ("EqualTerms$Rule", "secondPart", "[I", true)
  | _ => ("EqualTerms$Rule", "binds", "[Z", true)
def ft_U : Nat → FieldType := fun k => match k with
  | 0 => .array .int
  | 1 => .int
  | 2 => .array .int
  | _ => .array .boolean
theorem nm_U : ∀ a, a < 4 → ∀ b, b < 4 → a ≠ b → (F_U a).2.1 ≠ (F_U b).2.1 := by decide +kernel
theorem ty_U : ∀ k, k < 4 → parseFieldDescriptor (F_U k).2.2.1 = some (ft_U k) := by decide +kernel
theorem in_U : ∀ w ∈ u_ws "EqualTerms$Rule" F_U 4, w ∈ et_W := et_ins [445, 447, 449, 451] (by decide +kernel) (by decide +kernel)
def F_T : u_T := fun k => match k with
  | 0 => ("EqualTerms$Text", "characters", "[I", true)
  | 1 => ("EqualTerms$Text", "size", "I", false)
  | 2 => ("EqualTerms$Text", "middle", "I", false)
  | _ => ("EqualTerms$Text", "wrongPlace", "I", false)
def ft_T : Nat → FieldType := fun k => match k with
  | 0 => .array .int
  | 1 => .int
  | 2 => .int
  | _ => .int
theorem nm_T : ∀ a, a < 4 → ∀ b, b < 4 → a ≠ b → (F_T a).2.1 ≠ (F_T b).2.1 := by decide +kernel
theorem ty_T : ∀ k, k < 4 → parseFieldDescriptor (F_T k).2.2.1 = some (ft_T k) := by decide +kernel
theorem in_T : ∀ w ∈ u_ws "EqualTerms$Text" F_T 4, w ∈ et_W := et_ins [94, 96, 98, 100] (by decide +kernel) (by decide +kernel)
def F_K : u_T := fun k => match k with
  | 0 => ("EqualTerms$Walk", "variables", "[I", true)
  | 1 => ("EqualTerms$Walk", "graph", "LEqualTerms$Graph;", true)
  | _ => ("EqualTerms$Walk", "stack", "[I", true)
def ft_K : Nat → FieldType := fun k => match k with
  | 0 => .array .int
  | 1 => .object "EqualTerms$Graph"
  | _ => .array .int
theorem nm_K : ∀ a, a < 3 → ∀ b, b < 3 → a ≠ b → (F_K a).2.1 ≠ (F_K b).2.1 := by decide +kernel
theorem ty_K : ∀ k, k < 3 → parseFieldDescriptor (F_K k).2.2.1 = some (ft_K k) := by decide +kernel
theorem in_K : ∀ w ∈ u_ws "EqualTerms$Walk" F_K 3, w ∈ et_W := et_ins [159, 161, 163] (by decide +kernel) (by decide +kernel)
def F_E : u_T := fun k => match k with
  | 0 => ("EqualTerms", "text", "LEqualTerms$Text;", true)
  | 1 => ("EqualTerms", "graph", "LEqualTerms$Graph;", true)
  | 2 => ("EqualTerms", "walk", "LEqualTerms$Walk;", true)
  | 3 => ("EqualTerms", "round", "LEqualTerms$Round;", true)
  | 4 => ("EqualTerms", "cheapest", "LEqualTerms$Cheapest;", true)
  | 5 => ("EqualTerms", "ruleRow", "[LEqualTerms$Rule;", true)
  | _ => ("EqualTerms", "ruleCount", "I", false)
def ft_E : Nat → FieldType := fun k => match k with
  | 0 => .object "EqualTerms$Text"
  | 1 => .object "EqualTerms$Graph"
  | 2 => .object "EqualTerms$Walk"
  | 3 => .object "EqualTerms$Round"
  | 4 => .object "EqualTerms$Cheapest"
  | 5 => .array (.object "EqualTerms$Rule")
  | _ => .int
theorem nm_E : ∀ a, a < 7 → ∀ b, b < 7 → a ≠ b → (F_E a).2.1 ≠ (F_E b).2.1 := by decide +kernel
theorem ty_E : ∀ k, k < 7 → parseFieldDescriptor (F_E k).2.2.1 = some (ft_E k) := by decide +kernel
theorem in_E : ∀ w ∈ u_ws "EqualTerms" F_E 7, w ∈ et_W := et_ins [236, 238, 240, 242, 244, 246, 248] (by decide +kernel) (by decide +kernel)
def F_M : u_T := fun k => match k with
  | 0 => ("EqualTermsModel", "thrown", "I", false)
  | 1 => ("EqualTermsModel", "text", "[I", true)
  | 2 => ("EqualTermsModel", "length", "I", false)
  | 3 => ("EqualTermsModel", "at", "I", false)
  | 4 => ("EqualTermsModel", "wrong", "I", false)
  | 5 => ("EqualTermsModel", "end", "I", false)
  | 6 => ("EqualTermsModel", "allowed", "I", false)
  | 7 => ("EqualTermsModel", "seen", "I", false)
  | 8 => ("EqualTermsModel", "rules", "I", false)
  | 9 => ("EqualTermsModel", "sides", "[I", true)
  | 10 => ("EqualTermsModel", "sizes", "[I", true)
  | 11 => ("EqualTermsModel", "nodes", "I", false)
  | 12 => ("EqualTermsModel", "classes", "I", false)
  | 13 => ("EqualTermsModel", "sign", "[I", true)
  | 14 => ("EqualTermsModel", "first", "[I", true)
  | 15 => ("EqualTermsModel", "second", "[I", true)
  | 16 => ("EqualTermsModel", "owner", "[I", true)
  | 17 => ("EqualTermsModel", "label", "[I", true)
  | 18 => ("EqualTermsModel", "renamed", "[I", true)
  | 19 => ("EqualTermsModel", "united", "Z", false)
  | 20 => ("EqualTermsModel", "row", "[I", true)
  | 21 => ("EqualTermsModel", "rowSize", "I", false)
  | 22 => ("EqualTermsModel", "variable", "[I", true)
  | 23 => ("EqualTermsModel", "leaf", "[I", true)
  | 24 => ("EqualTermsModel", "unary", "[I", true)
  | 25 => ("EqualTermsModel", "binary", "[I", true)
  | 26 => ("EqualTermsModel", "prices", "[I", true)
  | 27 => ("EqualTermsModel", "cost", "[J", true)
  | 28 => ("EqualTermsModel", "size", "[J", true)
  | 29 => ("EqualTermsModel", "best", "[I", true)
  | 30 => ("EqualTermsModel", "draft", "[I", true)
  | 31 => ("EqualTermsModel", "draftCost", "J", false)
  | _ => ("EqualTermsModel", "draftSize", "J", false)
def ft_M : Nat → FieldType := fun k => match k with
  | 0 => .int
  | 1 => .array .int
  | 2 => .int
  | 3 => .int
  | 4 => .int
  | 5 => .int
  | 6 => .int
  | 7 => .int
  | 8 => .int
  | 9 => .array .int
  | 10 => .array .int
  | 11 => .int
  | 12 => .int
  | 13 => .array .int
  | 14 => .array .int
  | 15 => .array .int
  | 16 => .array .int
  | 17 => .array .int
  | 18 => .array .int
  | 19 => .boolean
  | 20 => .array .int
  | 21 => .int
  | 22 => .array .int
  | 23 => .array .int
  | 24 => .array .int
  | 25 => .array .int
  | 26 => .array .int
  | 27 => .array .long
  | 28 => .array .long
  | 29 => .array .int
  | 30 => .array .int
  | 31 => .long
  | _ => .long
theorem nm_M : ∀ a, a < 33 → ∀ b, b < 33 → a ≠ b → (F_M a).2.1 ≠ (F_M b).2.1 := by decide +kernel
theorem ty_M : ∀ k, k < 33 → parseFieldDescriptor (F_M k).2.2.1 = some (ft_M k) := by decide +kernel
theorem in_M : ∀ w ∈ u_ws "EqualTermsModel" F_M 33, w ∈ et_W := et_ins [711, 713, 715, 717, 719, 721, 723, 725, 727, 729, 731, 733, 735, 737, 739, 741, 743, 745, 747, 749, 751, 753, 755, 757, 759, 761, 763, 765, 767, 769, 771, 773, 775] (by decide +kernel) (by decide +kernel)
abbrev et_cl : List vw_C := [("EqualTerms$Cheapest", F_C, 6), ("EqualTerms$Graph", F_G, 8), ("EqualTerms$Round", F_R, 6), ("EqualTerms$Rule", F_U, 4), ("EqualTerms$Text", F_T, 4), ("EqualTerms$Walk", F_K, 3), ("EqualTerms", F_E, 7), ("EqualTermsModel", F_M, 33)]
def et_Rn : String := "EqualTerms$Rule"
def et_tys (dA : Nat → ClassId) : List (ClassId × FieldType) := [(dA 0, .int), (dA 1, .long), (dA 2, .boolean), (dA 3, .object "EqualTerms$Rule"), (dA 4, .array .int)]
def et_isN (w : Cond) : Bool := match w with | .fieldLinkNest .. => true | .methodLinkNest .. => true | .castable .. => true | .declares _ => true | _ => false
def et_NST : List Cond := [.methodLinkNest "EqualTerms" 9 ⟨"EqualTerms$Text", "<init>", "()V"⟩ "EqualTerms", .methodLinkNest "EqualTerms" 18 ⟨"EqualTerms$Graph", "<init>", "()V"⟩ "EqualTerms", .castable "java/lang/IllegalArgumentException" "java/lang/IllegalArgumentException", .declares ⟨"java/lang/RuntimeException", "<init>", "()V"⟩, .declares ⟨"java/lang/RuntimeException", "<init>", "(Ljava/lang/String;)V"⟩, .declares ⟨"java/lang/Exception", "<init>", "()V"⟩, .declares ⟨"java/lang/Exception", "<init>", "(Ljava/lang/String;)V"⟩, .declares ⟨"java/lang/Throwable", "<init>", "()V"⟩, .declares ⟨"java/lang/Throwable", "<init>", "(Ljava/lang/String;)V"⟩, .castable "java/lang/IllegalStateException" "java/lang/IllegalStateException", .castable "[I" "java/lang/Cloneable"]
theorem et_NST_ok : ∀ w ∈ et_NST, et_isN w = true := by decide +kernel
theorem et_NST_in : ∀ w ∈ et_NST, w ∈ lw_tbl := by decide +kernel
def et_STR : List (String × Nat × String) := [("EqualTerms", 81, "the text is no rule"), ("EqualTerms", 88, "there are six rules"), ("EqualTerms", 192, "the text is no term"), ("EqualTerms", 111, "there is no room for the term"), ("EqualTerms", 197, "the text is not two terms"), ("EqualTerms", 119, "there is no room for the terms"), ("EqualTerms", 134, "no sign of a term"), ("EqualTerms", 137, "no price"), ("EqualTerms", 142, "no number of rounds")]
theorem et_STR_in : ∀ q ∈ et_STR, Cond.stringRef q.1 q.2.1 q.2.2 ∈ lw_tbl := by decide +kernel
def et_AOS : List String := ["EqualTerms$Rule"]
def et_exn (k : Nat) : String := match k with | 0 => "java/lang/IllegalArgumentException" | _ => "java/lang/IllegalStateException"
def et_SW : List Cond := [.laysStatic "java/lang/Throwable" "UNASSIGNED_STACK" "[Ljava/lang/StackTraceElement;", .isRef (.static "java/lang/Throwable" "UNASSIGNED_STACK" "[Ljava/lang/StackTraceElement;"), .laysStatic "java/lang/Throwable" "SUPPRESSED_SENTINEL" "Ljava/util/List;", .isRef (.static "java/lang/Throwable" "SUPPRESSED_SENTINEL" "Ljava/util/List;")]
