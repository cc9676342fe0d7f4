section
-- ===== PART A: goes FIRST, ahead of the names: the tables' words, and 'selects' of the private methods out of them =====
/-- a private method of a class that the tables say can be made, by its rows of tables_1 -/
def lw_okq (q : MethodName × Nat) : Prop := (q.1.cls ≠ "java/lang/invoke/MethodHandle" ∧ q.1.cls ≠ "java/lang/invoke/VarHandle") ∧ Cond.instantiable q.1.cls q.2 ∈ tables_1 ∧ Cond.privateMethod q.1 ∈ tables_1 ∧ Cond.instanceMethod q.1 ∈ tables_1
theorem lw_p0 : lw_okq (⟨"HashTree", "leafOfKey", "()LHashTree$Leaf;"⟩, 9) := ⟨⟨by decide +kernel, by decide +kernel⟩, List.mem_of_getElem? (i := 13) (by decide +kernel), List.mem_of_getElem? (i := 80) (by decide +kernel), List.mem_of_getElem? (i := 81) (by decide +kernel)⟩
theorem lw_p1 : lw_okq (⟨"HashTree", "nearestLeaf", "()LHashTree$Leaf;"⟩, 9) := ⟨⟨by decide +kernel, by decide +kernel⟩, List.mem_of_getElem? (i := 13) (by decide +kernel), List.mem_of_getElem? (i := 84) (by decide +kernel), List.mem_of_getElem? (i := 85) (by decide +kernel)⟩
theorem lw_p2 : lw_okq (⟨"HashTree", "stalePath", "(I)LHashTree$Branch;"⟩, 9) := ⟨⟨by decide +kernel, by decide +kernel⟩, List.mem_of_getElem? (i := 13) (by decide +kernel), List.mem_of_getElem? (i := 107) (by decide +kernel), List.mem_of_getElem? (i := 108) (by decide +kernel)⟩
theorem lw_p3 : lw_okq (⟨"HashTree", "insert", "(LHashTree$Leaf;)V"⟩, 9) := ⟨⟨by decide +kernel, by decide +kernel⟩, List.mem_of_getElem? (i := 13) (by decide +kernel), List.mem_of_getElem? (i := 157) (by decide +kernel), List.mem_of_getElem? (i := 158) (by decide +kernel)⟩
theorem lw_p4 : lw_okq (⟨"HashTree", "hang", "(LHashTree$Branch;LHashTree$Node;)V"⟩, 9) := ⟨⟨by decide +kernel, by decide +kernel⟩, List.mem_of_getElem? (i := 13) (by decide +kernel), List.mem_of_getElem? (i := 179) (by decide +kernel), List.mem_of_getElem? (i := 180) (by decide +kernel)⟩
theorem lw_p5 : lw_okq (⟨"HashTree", "refresh", "()V"⟩, 9) := ⟨⟨by decide +kernel, by decide +kernel⟩, List.mem_of_getElem? (i := 13) (by decide +kernel), List.mem_of_getElem? (i := 210) (by decide +kernel), List.mem_of_getElem? (i := 211) (by decide +kernel)⟩
theorem lw_p6 : lw_okq (⟨"HashTree", "hashAt", "(LHashTree$Node;I[J)V"⟩, 9) := ⟨⟨by decide +kernel, by decide +kernel⟩, List.mem_of_getElem? (i := 13) (by decide +kernel), List.mem_of_getElem? (i := 218) (by decide +kernel), List.mem_of_getElem? (i := 219) (by decide +kernel)⟩
theorem lw_p7 : lw_okq (⟨"HashTree$Digester", "spread", "()V"⟩, 3) := ⟨⟨by decide +kernel, by decide +kernel⟩, List.mem_of_getElem? (i := 21) (by decide +kernel), List.mem_of_getElem? (i := 239) (by decide +kernel), List.mem_of_getElem? (i := 240) (by decide +kernel)⟩
theorem lw_p8 : lw_okq (⟨"HashTree$Digester", "mix", "()V"⟩, 3) := ⟨⟨by decide +kernel, by decide +kernel⟩, List.mem_of_getElem? (i := 21) (by decide +kernel), List.mem_of_getElem? (i := 246) (by decide +kernel), List.mem_of_getElem? (i := 247) (by decide +kernel)⟩
theorem lw_p9 : lw_okq (⟨"HashTree", "keepSibling", "(I[J)V"⟩, 9) := ⟨⟨by decide +kernel, by decide +kernel⟩, List.mem_of_getElem? (i := 13) (by decide +kernel), List.mem_of_getElem? (i := 275) (by decide +kernel), List.mem_of_getElem? (i := 276) (by decide +kernel)⟩
theorem lw_p10 : lw_okq (⟨"HashTree", "keepEnd", "(LHashTree$Leaf;)V"⟩, 9) := ⟨⟨by decide +kernel, by decide +kernel⟩, List.mem_of_getElem? (i := 13) (by decide +kernel), List.mem_of_getElem? (i := 280) (by decide +kernel), List.mem_of_getElem? (i := 281) (by decide +kernel)⟩
theorem lw_p11 : lw_okq (⟨"HashTreeModel", "place", "()I"⟩, 22) := ⟨⟨by decide +kernel, by decide +kernel⟩, List.mem_of_getElem? (i := 304) (by decide +kernel), List.mem_of_getElem? (i := 388) (by decide +kernel), List.mem_of_getElem? (i := 389) (by decide +kernel)⟩
theorem lw_p12 : lw_okq (⟨"HashTreeModel", "isAt", "(I)Z"⟩, 22) := ⟨⟨by decide +kernel, by decide +kernel⟩, List.mem_of_getElem? (i := 304) (by decide +kernel), List.mem_of_getElem? (i := 396) (by decide +kernel), List.mem_of_getElem? (i := 397) (by decide +kernel)⟩
theorem lw_p13 : lw_okq (⟨"HashTreeModel", "hash", "(III)V"⟩, 22) := ⟨⟨by decide +kernel, by decide +kernel⟩, List.mem_of_getElem? (i := 304) (by decide +kernel), List.mem_of_getElem? (i := 423) (by decide +kernel), List.mem_of_getElem? (i := 424) (by decide +kernel)⟩
theorem lw_p14 : lw_okq (⟨"HashTreeModel", "leaf", "(II)V"⟩, 22) := ⟨⟨by decide +kernel, by decide +kernel⟩, List.mem_of_getElem? (i := 304) (by decide +kernel), List.mem_of_getElem? (i := 427) (by decide +kernel), List.mem_of_getElem? (i := 428) (by decide +kernel)⟩
theorem lw_p15 : lw_okq (⟨"HashTreeModel", "join", "(I[JI[JI)V"⟩, 22) := ⟨⟨by decide +kernel, by decide +kernel⟩, List.mem_of_getElem? (i := 304) (by decide +kernel), List.mem_of_getElem? (i := 431) (by decide +kernel), List.mem_of_getElem? (i := 432) (by decide +kernel)⟩
def lw_privs_1 : List (MethodName × Nat) := [(⟨"HashTree", "leafOfKey", "()LHashTree$Leaf;"⟩, 9), (⟨"HashTree", "nearestLeaf", "()LHashTree$Leaf;"⟩, 9), (⟨"HashTree", "stalePath", "(I)LHashTree$Branch;"⟩, 9), (⟨"HashTree", "insert", "(LHashTree$Leaf;)V"⟩, 9), (⟨"HashTree", "hang", "(LHashTree$Branch;LHashTree$Node;)V"⟩, 9), (⟨"HashTree", "refresh", "()V"⟩, 9), (⟨"HashTree", "hashAt", "(LHashTree$Node;I[J)V"⟩, 9), (⟨"HashTree$Digester", "spread", "()V"⟩, 3), (⟨"HashTree$Digester", "mix", "()V"⟩, 3), (⟨"HashTree", "keepSibling", "(I[J)V"⟩, 9), (⟨"HashTree", "keepEnd", "(LHashTree$Leaf;)V"⟩, 9), (⟨"HashTreeModel", "place", "()I"⟩, 22), (⟨"HashTreeModel", "isAt", "(I)Z"⟩, 22), (⟨"HashTreeModel", "hash", "(III)V"⟩, 22), (⟨"HashTreeModel", "leaf", "(II)V"⟩, 22), (⟨"HashTreeModel", "join", "(I[JI[JI)V"⟩, 22)]
theorem lw_r1 : ∀ q ∈ lw_privs_1, lw_okq q := List.forall_mem_cons.mpr ⟨lw_p0, List.forall_mem_cons.mpr ⟨lw_p1, List.forall_mem_cons.mpr ⟨lw_p2, List.forall_mem_cons.mpr ⟨lw_p3, List.forall_mem_cons.mpr ⟨lw_p4, List.forall_mem_cons.mpr ⟨lw_p5, List.forall_mem_cons.mpr ⟨lw_p6, List.forall_mem_cons.mpr ⟨lw_p7, List.forall_mem_cons.mpr ⟨lw_p8, List.forall_mem_cons.mpr ⟨lw_p9, List.forall_mem_cons.mpr ⟨lw_p10, List.forall_mem_cons.mpr ⟨lw_p11, List.forall_mem_cons.mpr ⟨lw_p12, List.forall_mem_cons.mpr ⟨lw_p13, List.forall_mem_cons.mpr ⟨lw_p14, List.forall_mem_cons.mpr ⟨lw_p15, fun _ h => absurd h List.not_mem_nil⟩⟩⟩⟩⟩⟩⟩⟩⟩⟩⟩⟩⟩⟩⟩⟩
theorem lw_p16 : lw_okq (⟨"HashTreeModel", "put", "(I[JI)V"⟩, 22) := ⟨⟨by decide +kernel, by decide +kernel⟩, List.mem_of_getElem? (i := 304) (by decide +kernel), List.mem_of_getElem? (i := 441) (by decide +kernel), List.mem_of_getElem? (i := 442) (by decide +kernel)⟩
theorem lw_p17 : lw_okq (⟨"HashTreeModel", "digestOf", "(I)V"⟩, 22) := ⟨⟨by decide +kernel, by decide +kernel⟩, List.mem_of_getElem? (i := 304) (by decide +kernel), List.mem_of_getElem? (i := 445) (by decide +kernel), List.mem_of_getElem? (i := 446) (by decide +kernel)⟩
theorem lw_p18 : lw_okq (⟨"HashTreeModel", "block", "(I)V"⟩, 22) := ⟨⟨by decide +kernel, by decide +kernel⟩, List.mem_of_getElem? (i := 304) (by decide +kernel), List.mem_of_getElem? (i := 458) (by decide +kernel), List.mem_of_getElem? (i := 459) (by decide +kernel)⟩
theorem lw_p19 : lw_okq (⟨"HashTreeModel", "wordPair", "(I)J"⟩, 22) := ⟨⟨by decide +kernel, by decide +kernel⟩, List.mem_of_getElem? (i := 304) (by decide +kernel), List.mem_of_getElem? (i := 469) (by decide +kernel), List.mem_of_getElem? (i := 470) (by decide +kernel)⟩
theorem lw_p20 : lw_okq (⟨"HashTreeModel", "step", "(I)V"⟩, 22) := ⟨⟨by decide +kernel, by decide +kernel⟩, List.mem_of_getElem? (i := 304) (by decide +kernel), List.mem_of_getElem? (i := 473) (by decide +kernel), List.mem_of_getElem? (i := 474) (by decide +kernel)⟩
theorem lw_p21 : lw_okq (⟨"HashTreeModel", "agree", "(III)Z"⟩, 22) := ⟨⟨by decide +kernel, by decide +kernel⟩, List.mem_of_getElem? (i := 304) (by decide +kernel), List.mem_of_getElem? (i := 477) (by decide +kernel), List.mem_of_getElem? (i := 478) (by decide +kernel)⟩
theorem lw_p22 : lw_okq (⟨"HashTreeModel", "fork", "(III)V"⟩, 22) := ⟨⟨by decide +kernel, by decide +kernel⟩, List.mem_of_getElem? (i := 304) (by decide +kernel), List.mem_of_getElem? (i := 481) (by decide +kernel), List.mem_of_getElem? (i := 482) (by decide +kernel)⟩
def lw_privs_2 : List (MethodName × Nat) := [(⟨"HashTreeModel", "put", "(I[JI)V"⟩, 22), (⟨"HashTreeModel", "digestOf", "(I)V"⟩, 22), (⟨"HashTreeModel", "block", "(I)V"⟩, 22), (⟨"HashTreeModel", "wordPair", "(I)J"⟩, 22), (⟨"HashTreeModel", "step", "(I)V"⟩, 22), (⟨"HashTreeModel", "agree", "(III)Z"⟩, 22), (⟨"HashTreeModel", "fork", "(III)V"⟩, 22)]
theorem lw_r2 : ∀ q ∈ lw_privs_2, lw_okq q := List.forall_mem_cons.mpr ⟨lw_p16, List.forall_mem_cons.mpr ⟨lw_p17, List.forall_mem_cons.mpr ⟨lw_p18, List.forall_mem_cons.mpr ⟨lw_p19, List.forall_mem_cons.mpr ⟨lw_p20, List.forall_mem_cons.mpr ⟨lw_p21, List.forall_mem_cons.mpr ⟨lw_p22, fun _ h => absurd h List.not_mem_nil⟩⟩⟩⟩⟩⟩⟩
def lw_privs : List (MethodName × Nat) := lw_privs_1 ++ (lw_privs_2)
def lw_tbl : List Cond := k2_sels lw_privs ++ tables_1
theorem lw_privs_ok : ∀ q ∈ lw_privs, lw_okq q := by
  show ∀ q ∈ lw_privs_1 ++ (lw_privs_2), lw_okq q
  exact List.forall_mem_append.mpr ⟨lw_r1, lw_r2⟩
def R_X : String := "HashTree"
def R_D : String := "HashTree$Digester"
def R_L : String := "HashTree$Leaf"
def R_B : String := "HashTree$Branch"
def R_N : String := "HashTree$Node"
def R_M : String := "HashTreeModel"
def R_W : String := "HashTreeLaw"
def R_JI : String := "java/lang/Integer"
def R_JL : String := "java/lang/Long"
def R_JM : String := "java/lang/Math"
def R_JA : String := "java/util/Arrays"
def R_JO : String := "java/lang/Object"
def R_JS : String := "java/lang/System"
def F_X : u_T := fun k => match k with
  | 0 => ("HashTree", "key", "[J", true)
  | 1 => ("HashTree", "digester", "LHashTree$Digester;", true)
  | 2 => ("HashTree", "open", "[LHashTree$Node;", true)
  | 3 => ("HashTree", "top", "LHashTree$Node;", false)
  | 4 => ("HashTree", "count", "I", false)
  | 5 => ("HashTree", "siblings", "[J", true)
  | 6 => ("HashTree", "lastSibling", "[J", true)
  | 7 => ("HashTree", "end", "[J", true)
  | _ => ("HashTree", "ending", "I", false)
def t_X : Nat → FieldType := fun k => match k with
  | 0 => .array .long
  | 1 => .object "HashTree$Digester"
  | 2 => .array (.object "HashTree$Node")
  | 3 => .object "HashTree$Node"
  | 4 => .int
  | 5 => .array .long
  | 6 => .array .long
  | 7 => .array .long
  | _ => .int
theorem n_X : ∀ a, a < 9 → ∀ b, b < 9 → a ≠ b → (F_X a).2.1 ≠ (F_X b).2.1 := by decide +kernel
theorem t_X_ok : ∀ k, k < 9 → parseFieldDescriptor (F_X k).2.2.1 = some (t_X k) := by decide +kernel
def F_D : u_T := fun k => match k with
  | 0 => ("HashTree$Digester", "words", "[I", true)
  | 1 => ("HashTree$Digester", "w", "[I", true)
  | _ => ("HashTree$Digester", "length", "I", false)
def t_D : Nat → FieldType := fun k => match k with
  | 0 => .array .int
  | 1 => .array .int
  | _ => .int
theorem n_D : ∀ a, a < 3 → ∀ b, b < 3 → a ≠ b → (F_D a).2.1 ≠ (F_D b).2.1 := by decide +kernel
theorem t_D_ok : ∀ k, k < 3 → parseFieldDescriptor (F_D k).2.2.1 = some (t_D k) := by decide +kernel
def F_L : u_T := fun k => match k with
  | 0 => ("HashTree$Node", "key", "[J", true)
  | 1 => ("HashTree$Node", "level", "I", true)
  | 2 => ("HashTree$Node", "hash", "[J", true)
  | 3 => ("HashTree$Node", "fresh", "Z", false)
  | _ => ("HashTree$Leaf", "value", "[J", true)
def t_L : Nat → FieldType := fun k => match k with
  | 0 => .array .long
  | 1 => .int
  | 2 => .array .long
  | 3 => .boolean
  | _ => .array .long
theorem n_L : ∀ a, a < 5 → ∀ b, b < 5 → a ≠ b → (F_L a).2.1 ≠ (F_L b).2.1 := by decide +kernel
theorem t_L_ok : ∀ k, k < 5 → parseFieldDescriptor (F_L k).2.2.1 = some (t_L k) := by decide +kernel
def F_B : u_T := fun k => match k with
  | 0 => ("HashTree$Node", "key", "[J", true)
  | 1 => ("HashTree$Node", "level", "I", true)
  | 2 => ("HashTree$Node", "hash", "[J", true)
  | 3 => ("HashTree$Node", "fresh", "Z", false)
  | 4 => ("HashTree$Branch", "zero", "LHashTree$Node;", false)
  | _ => ("HashTree$Branch", "one", "LHashTree$Node;", false)
def t_B : Nat → FieldType := fun k => match k with
  | 0 => .array .long
  | 1 => .int
  | 2 => .array .long
  | 3 => .boolean
  | 4 => .object "HashTree$Node"
  | _ => .object "HashTree$Node"
theorem n_B : ∀ a, a < 6 → ∀ b, b < 6 → a ≠ b → (F_B a).2.1 ≠ (F_B b).2.1 := by decide +kernel
theorem t_B_ok : ∀ k, k < 6 → parseFieldDescriptor (F_B k).2.2.1 = some (t_B k) := by decide +kernel
def F_M : u_T := fun k => match k with
  | 0 => ("HashTreeModel", "keys", "[J", true)
  | 1 => ("HashTreeModel", "values", "[J", true)
  | 2 => ("HashTreeModel", "count", "I", false)
  | 3 => ("HashTreeModel", "now", "[J", true)
  | 4 => ("HashTreeModel", "begins", "[I", true)
  | 5 => ("HashTreeModel", "sizes", "[I", true)
  | 6 => ("HashTreeModel", "hashes", "[J", true)
  | 7 => ("HashTreeModel", "nodes", "I", false)
  | 8 => ("HashTreeModel", "root", "[J", true)
  | 9 => ("HashTreeModel", "rooted", "Z", false)
  | 10 => ("HashTreeModel", "siblings", "[J", true)
  | 11 => ("HashTreeModel", "depth", "I", false)
  | 12 => ("HashTreeModel", "ending", "I", false)
  | 13 => ("HashTreeModel", "end", "[J", true)
  | 14 => ("HashTreeModel", "message", "[B", true)
  | 15 => ("HashTreeModel", "words", "[J", true)
  | 16 => ("HashTreeModel", "kept", "[B", true)
  | 17 => ("HashTreeModel", "keptOf", "[J", true)
  | 18 => ("HashTreeModel", "keptDigests", "[J", true)
  | 19 => ("HashTreeModel", "pair", "[J", true)
  | 20 => ("HashTreeModel", "got", "[J", true)
  | _ => ("HashTreeModel", "schedule", "[J", true)
def t_M : Nat → FieldType := fun k => match k with
  | 0 => .array .long
  | 1 => .array .long
  | 2 => .int
  | 3 => .array .long
  | 4 => .array .int
  | 5 => .array .int
  | 6 => .array .long
  | 7 => .int
  | 8 => .array .long
  | 9 => .boolean
  | 10 => .array .long
  | 11 => .int
  | 12 => .int
  | 13 => .array .long
  | 14 => .array .byte
  | 15 => .array .long
  | 16 => .array .byte
  | 17 => .array .long
  | 18 => .array .long
  | 19 => .array .long
  | 20 => .array .long
  | _ => .array .long
theorem n_M : ∀ a, a < 22 → ∀ b, b < 22 → a ≠ b → (F_M a).2.1 ≠ (F_M b).2.1 := by decide +kernel
theorem t_M_ok : ∀ k, k < 22 → parseFieldDescriptor (F_M k).2.2.1 = some (t_M k) := by decide +kernel
abbrev vwCl : List vw_C := [(R_X, F_X, 9), (R_D, F_D, 3), (R_L, F_L, 5), (R_B, F_B, 6), (R_M, F_M, 22)]
abbrev b_X_init : ByteArray := prog_1_method_1_code
def y_X_init : MethodName := ⟨R_X, "<init>", "()V"⟩
abbrev b_D_init : ByteArray := prog_3_method_1_code
def y_D_init : MethodName := ⟨R_D, "<init>", "()V"⟩
abbrev b_X_key : ByteArray := prog_1_method_2_code
def y_X_key : MethodName := ⟨R_X, "key", "(JJJJ)V"⟩
abbrev b_X_fill : ByteArray := prog_1_method_15_code
def y_X_fill : MethodName := ⟨R_X, "fill", "([JJJJJ)V"⟩
abbrev b_X_set : ByteArray := prog_1_method_3_code
def y_X_set : MethodName := ⟨R_X, "set", "(JJJJ)I"⟩
abbrev b_X_leafOfKey : ByteArray := prog_1_method_19_code
def y_X_leafOfKey : MethodName := ⟨R_X, "leafOfKey", "()LHashTree$Leaf;"⟩
abbrev b_X_nearestLeaf : ByteArray := prog_1_method_18_code
def y_X_nearestLeaf : MethodName := ⟨R_X, "nearestLeaf", "()LHashTree$Leaf;"⟩
abbrev b_X_isOne : ByteArray := prog_1_method_16_code
def y_X_isOne : MethodName := ⟨R_X, "isOne", "([JI)Z"⟩
abbrev b_B_half : ByteArray := prog_2_method_2_code
def y_B_half : MethodName := ⟨R_B, "half", "(Z)LHashTree$Node;"⟩
abbrev b_X_partingLevel : ByteArray := prog_1_method_17_code
def y_X_partingLevel : MethodName := ⟨R_X, "partingLevel", "([J[J)I"⟩
abbrev b_JL_numberOfLeadingZeros : ByteArray := prog_10_method_48_code
def y_JL_numberOfLeadingZeros : MethodName := ⟨R_JL, "numberOfLeadingZeros", "(J)I"⟩
abbrev b_JI_numberOfLeadingZeros : ByteArray := prog_9_method_47_code
def y_JI_numberOfLeadingZeros : MethodName := ⟨R_JI, "numberOfLeadingZeros", "(I)I"⟩
abbrev b_X_stalePath : ByteArray := prog_1_method_20_code
def y_X_stalePath : MethodName := ⟨R_X, "stalePath", "(I)LHashTree$Branch;"⟩
abbrev b_L_init : ByteArray := prog_4_method_1_code
def y_L_init : MethodName := ⟨R_L, "<init>", "([J)V"⟩
abbrev b_N_init : ByteArray := prog_5_method_1_code
def y_N_init : MethodName := ⟨R_N, "<init>", "([JI)V"⟩
abbrev b_X_insert : ByteArray := prog_1_method_21_code
def y_X_insert : MethodName := ⟨R_X, "insert", "(LHashTree$Leaf;)V"⟩
abbrev b_B_init : ByteArray := prog_2_method_1_code
def y_B_init : MethodName := ⟨R_B, "<init>", "([JILHashTree$Node;LHashTree$Node;)V"⟩
abbrev b_X_hang : ByteArray := prog_1_method_22_code
def y_X_hang : MethodName := ⟨R_X, "hang", "(LHashTree$Branch;LHashTree$Node;)V"⟩
abbrev b_B_putHalf : ByteArray := prog_2_method_3_code
def y_B_putHalf : MethodName := ⟨R_B, "putHalf", "(ZLHashTree$Node;)V"⟩
abbrev b_X_remove : ByteArray := prog_1_method_4_code
def y_X_remove : MethodName := ⟨R_X, "remove", "()I"⟩
abbrev b_X_has : ByteArray := prog_1_method_5_code
def y_X_has : MethodName := ⟨R_X, "has", "()Z"⟩
abbrev b_X_value : ByteArray := prog_1_method_6_code
def y_X_value : MethodName := ⟨R_X, "value", "(I)J"⟩
abbrev b_X_isNumber : ByteArray := prog_1_method_14_code
def y_X_isNumber : MethodName := ⟨R_X, "isNumber", "(I)Z"⟩
abbrev b_X_count : ByteArray := prog_1_method_7_code
def y_X_count : MethodName := ⟨R_X, "count", "()I"⟩
abbrev b_X_root : ByteArray := prog_1_method_8_code
def y_X_root : MethodName := ⟨R_X, "root", "(I)J"⟩
abbrev b_X_refresh : ByteArray := prog_1_method_23_code
def y_X_refresh : MethodName := ⟨R_X, "refresh", "()V"⟩
abbrev b_B_staleHalf : ByteArray := prog_2_method_4_code
def y_B_staleHalf : MethodName := ⟨R_B, "staleHalf", "()LHashTree$Node;"⟩
abbrev b_X_hashAt : ByteArray := prog_1_method_24_code
def y_X_hashAt : MethodName := ⟨R_X, "hashAt", "(LHashTree$Node;I[J)V"⟩
abbrev b_D_join : ByteArray := prog_3_method_7_code
def y_D_join : MethodName := ⟨R_D, "join", "(I[J[J[J)V"⟩
abbrev b_D_begin : ByteArray := prog_3_method_2_code
def y_D_begin : MethodName := ⟨R_D, "begin", "()V"⟩
abbrev b_D_take : ByteArray := prog_3_method_3_code
def y_D_take : MethodName := ⟨R_D, "take", "(I)V"⟩
abbrev b_D_spread : ByteArray := prog_3_method_8_code
def y_D_spread : MethodName := ⟨R_D, "spread", "()V"⟩
abbrev b_JI_rotateRight : ByteArray := prog_9_method_51_code
def y_JI_rotateRight : MethodName := ⟨R_JI, "rotateRight", "(II)I"⟩
abbrev b_D_mix : ByteArray := prog_3_method_9_code
def y_D_mix : MethodName := ⟨R_D, "mix", "()V"⟩
abbrev b_D_takeLowest : ByteArray := prog_3_method_4_code
def y_D_takeLowest : MethodName := ⟨R_D, "takeLowest", "(JI)V"⟩
abbrev b_D_finish : ByteArray := prog_3_method_5_code
def y_D_finish : MethodName := ⟨R_D, "finish", "()V"⟩
abbrev b_D_number : ByteArray := prog_3_method_6_code
def y_D_number : MethodName := ⟨R_D, "number", "(I)J"⟩
abbrev b_X_prove : ByteArray := prog_1_method_9_code
def y_X_prove : MethodName := ⟨R_X, "prove", "()I"⟩
abbrev b_JA_fill : ByteArray := prog_13_method_101_code
def y_JA_fill : MethodName := ⟨R_JA, "fill", "([JJ)V"⟩
abbrev b_X_keepSibling : ByteArray := prog_1_method_25_code
def y_X_keepSibling : MethodName := ⟨R_X, "keepSibling", "(I[J)V"⟩
abbrev b_X_keepEnd : ByteArray := prog_1_method_26_code
def y_X_keepEnd : MethodName := ⟨R_X, "keepEnd", "(LHashTree$Leaf;)V"⟩
abbrev b_X_sibling : ByteArray := prog_1_method_10_code
def y_X_sibling : MethodName := ⟨R_X, "sibling", "(II)J"⟩
abbrev b_X_ending : ByteArray := prog_1_method_11_code
def y_X_ending : MethodName := ⟨R_X, "ending", "()I"⟩
abbrev b_X_endNumber : ByteArray := prog_1_method_12_code
def y_X_endNumber : MethodName := ⟨R_X, "endNumber", "(II)J"⟩
abbrev b_X_digest : ByteArray := prog_1_method_13_code
def y_X_digest : MethodName := ⟨R_X, "digest", "(JIII)J"⟩
abbrev b_M_init : ByteArray := prog_7_method_1_code
def y_M_init : MethodName := ⟨R_M, "<init>", "()V"⟩
abbrev b_M_key : ByteArray := prog_7_method_17_code
def y_M_key : MethodName := ⟨R_M, "key", "(JJJJ)V"⟩
abbrev b_M_set : ByteArray := prog_7_method_18_code
def y_M_set : MethodName := ⟨R_M, "set", "(JJJJ)I"⟩
abbrev b_M_place : ByteArray := prog_7_method_8_code
def y_M_place : MethodName := ⟨R_M, "place", "()I"⟩
abbrev b_M_compare : ByteArray := prog_7_method_7_code
def y_M_compare : MethodName := ⟨R_M, "compare", "([JI[JI)I"⟩
abbrev b_M_isAt : ByteArray := prog_7_method_9_code
def y_M_isAt : MethodName := ⟨R_M, "isAt", "(I)Z"⟩
abbrev b_M_remove : ByteArray := prog_7_method_19_code
def y_M_remove : MethodName := ⟨R_M, "remove", "()I"⟩
abbrev b_M_has : ByteArray := prog_7_method_20_code
def y_M_has : MethodName := ⟨R_M, "has", "()Z"⟩
abbrev b_M_value : ByteArray := prog_7_method_22_code
def y_M_value : MethodName := ⟨R_M, "value", "(I)J"⟩
abbrev b_M_isNumber : ByteArray := prog_7_method_21_code
def y_M_isNumber : MethodName := ⟨R_M, "isNumber", "(I)Z"⟩
abbrev b_M_count : ByteArray := prog_7_method_23_code
def y_M_count : MethodName := ⟨R_M, "count", "()I"⟩
abbrev b_M_root : ByteArray := prog_7_method_24_code
def y_M_root : MethodName := ⟨R_M, "root", "(I)J"⟩
abbrev b_M_hash : ByteArray := prog_7_method_15_code
def y_M_hash : MethodName := ⟨R_M, "hash", "(III)V"⟩
abbrev b_M_leaf : ByteArray := prog_7_method_13_code
def y_M_leaf : MethodName := ⟨R_M, "leaf", "(II)V"⟩
abbrev b_M_join : ByteArray := prog_7_method_12_code
def y_M_join : MethodName := ⟨R_M, "join", "(I[JI[JI)V"⟩
abbrev b_JM_floorMod : ByteArray := prog_11_method_52_code
def y_JM_floorMod : MethodName := ⟨R_JM, "floorMod", "(JJ)J"⟩
abbrev b_M_put : ByteArray := prog_7_method_6_code
def y_M_put : MethodName := ⟨R_M, "put", "(I[JI)V"⟩
abbrev b_M_digestOf : ByteArray := prog_7_method_3_code
def y_M_digestOf : MethodName := ⟨R_M, "digestOf", "(I)V"⟩
abbrev b_M_block : ByteArray := prog_7_method_4_code
def y_M_block : MethodName := ⟨R_M, "block", "(I)V"⟩
abbrev b_M_turned : ByteArray := prog_7_method_2_code
def y_M_turned : MethodName := ⟨R_M, "turned", "(JI)J"⟩
abbrev b_M_wordPair : ByteArray := prog_7_method_5_code
def y_M_wordPair : MethodName := ⟨R_M, "wordPair", "(I)J"⟩
abbrev b_M_step : ByteArray := prog_7_method_16_code
def y_M_step : MethodName := ⟨R_M, "step", "(I)V"⟩
abbrev b_M_agree : ByteArray := prog_7_method_11_code
def y_M_agree : MethodName := ⟨R_M, "agree", "(III)Z"⟩
abbrev b_M_fork : ByteArray := prog_7_method_14_code
def y_M_fork : MethodName := ⟨R_M, "fork", "(III)V"⟩
abbrev b_M_bit : ByteArray := prog_7_method_10_code
def y_M_bit : MethodName := ⟨R_M, "bit", "([JII)I"⟩
abbrev b_M_prove : ByteArray := prog_7_method_25_code
def y_M_prove : MethodName := ⟨R_M, "prove", "()I"⟩
abbrev b_M_sibling : ByteArray := prog_7_method_26_code
def y_M_sibling : MethodName := ⟨R_M, "sibling", "(II)J"⟩
abbrev b_M_ending : ByteArray := prog_7_method_27_code
def y_M_ending : MethodName := ⟨R_M, "ending", "()I"⟩
abbrev b_M_endNumber : ByteArray := prog_7_method_28_code
def y_M_endNumber : MethodName := ⟨R_M, "endNumber", "(II)J"⟩
abbrev b_M_digest : ByteArray := prog_7_method_29_code
def y_M_digest : MethodName := ⟨R_M, "digest", "(JIII)J"⟩
abbrev b_W_law : ByteArray := code
def y_W_law : MethodName := ⟨R_W, "law", "([I)Z"⟩
/-- all the tables' words that a method may carry on -/
def bg : List Cond := lw_tbl.filter goodWord
theorem bg_in {w : Cond} (h : w ∈ tables_1) (hg : goodWord w = true) : w ∈ bg := List.mem_filter.mpr ⟨List.mem_append_right _ h, hg⟩
theorem bg_sel {w : Cond} (h : w ∈ k2_sels lw_privs) (hg : goodWord w = true) : w ∈ bg := List.mem_filter.mpr ⟨List.mem_append_left _ h, hg⟩
theorem bg_good : GoodIn bg bg := fun w h => ⟨h, good_of_word (List.mem_filter.mp h).2⟩
end
section
theorem wd_0 : (.initialized "HashTreeLaw" : Cond) ∈ bg := bg_in (List.mem_of_getElem? (i := 0) (by decide +kernel)) rfl
theorem wd_1 : (.initialized "HashTree" : Cond) ∈ bg := bg_in (List.mem_of_getElem? (i := 1) (by decide +kernel)) rfl
theorem wd_2 : (.initialized "HashTree$Digester" : Cond) ∈ bg := bg_in (List.mem_of_getElem? (i := 2) (by decide +kernel)) rfl
theorem wd_3 : (.initialized "HashTreeModel" : Cond) ∈ bg := bg_in (List.mem_of_getElem? (i := 3) (by decide +kernel)) rfl
theorem wd_4 : (.initialized "java/lang/Long" : Cond) ∈ bg := bg_in (List.mem_of_getElem? (i := 4) (by decide +kernel)) rfl
theorem wd_5 : (.initialized "java/lang/Integer" : Cond) ∈ bg := bg_in (List.mem_of_getElem? (i := 5) (by decide +kernel)) rfl
theorem wd_6 : (.initialized "HashTree$Node" : Cond) ∈ bg := bg_in (List.mem_of_getElem? (i := 6) (by decide +kernel)) rfl
theorem wd_7 : (.initialized "HashTree$Leaf" : Cond) ∈ bg := bg_in (List.mem_of_getElem? (i := 7) (by decide +kernel)) rfl
theorem wd_8 : (.initialized "HashTree$Branch" : Cond) ∈ bg := bg_in (List.mem_of_getElem? (i := 8) (by decide +kernel)) rfl
theorem wd_9 : (.initialized "java/lang/System" : Cond) ∈ bg := bg_in (List.mem_of_getElem? (i := 9) (by decide +kernel)) rfl
theorem wd_10 : (.initialized "java/lang/Math" : Cond) ∈ bg := bg_in (List.mem_of_getElem? (i := 10) (by decide +kernel)) rfl
theorem wd_11 : (.initialized "java/util/Arrays" : Cond) ∈ bg := bg_in (List.mem_of_getElem? (i := 11) (by decide +kernel)) rfl
theorem wd_12 : (.classLink "HashTreeLaw" 7 "HashTree" : Cond) ∈ bg := bg_in (List.mem_of_getElem? (i := 12) (by decide +kernel)) rfl
theorem wd_13 : (.instantiable "HashTree" 9 : Cond) ∈ bg := bg_in (List.mem_of_getElem? (i := 13) (by decide +kernel)) rfl
theorem wd_14 : (.methodLink "HashTreeLaw" 9 y_X_init : Cond) ∈ bg := bg_in (List.mem_of_getElem? (i := 14) (by decide +kernel)) rfl
theorem wd_15 : (.instanceMethod y_X_init : Cond) ∈ bg := bg_in (List.mem_of_getElem? (i := 15) (by decide +kernel)) rfl
theorem wc_X_init : (.code y_X_init b_X_init 1 none : Cond) ∈ bg := bg_in (List.mem_of_getElem? (i := 16) (by decide +kernel)) rfl
def ws_X_init : List Cond := .code y_X_init b_X_init 1 none :: bg
theorem g_X_init : GoodIn bg ws_X_init := fun w h => (List.mem_cons.mp h).elim (fun e => e ▸ bg_good _ wc_X_init) (bg_good w)
theorem wd_17 : (.methodLink "HashTree" 3 objectInit : Cond) ∈ bg := bg_in (List.mem_of_getElem? (i := 17) (by decide +kernel)) rfl
theorem wd_18 : (.instanceMethod objectInit : Cond) ∈ bg := bg_in (List.mem_of_getElem? (i := 18) (by decide +kernel)) rfl
theorem wc_objectInit : (.code objectInit object_method_1_code 1 none : Cond) ∈ bg := bg_in (List.mem_of_getElem? (i := 19) (by decide +kernel)) rfl
theorem wd_20 : (.classLink "HashTree" 13 "HashTree$Digester" : Cond) ∈ bg := bg_in (List.mem_of_getElem? (i := 20) (by decide +kernel)) rfl
theorem wd_21 : (.instantiable "HashTree$Digester" 3 : Cond) ∈ bg := bg_in (List.mem_of_getElem? (i := 21) (by decide +kernel)) rfl
theorem wd_23 : (.instanceMethod y_D_init : Cond) ∈ bg := bg_in (List.mem_of_getElem? (i := 23) (by decide +kernel)) rfl
theorem wc_D_init : (.code y_D_init b_D_init 1 none : Cond) ∈ bg := bg_in (List.mem_of_getElem? (i := 24) (by decide +kernel)) rfl
def ws_D_init : List Cond := .code y_D_init b_D_init 1 none :: bg
theorem g_D_init : GoodIn bg ws_D_init := fun w h => (List.mem_cons.mp h).elim (fun e => e ▸ bg_good _ wc_D_init) (bg_good w)
theorem wd_25 : (.methodLink "HashTree$Digester" 3 objectInit : Cond) ∈ bg := bg_in (List.mem_of_getElem? (i := 25) (by decide +kernel)) rfl
theorem wd_26 : (.fieldLink "HashTree$Digester" 11 "HashTree$Digester" "words" "[I" : Cond) ∈ bg := bg_in (List.mem_of_getElem? (i := 26) (by decide +kernel)) rfl
theorem wd_27 : (.fieldLink "HashTree$Digester" 15 "HashTree$Digester" "w" "[I" : Cond) ∈ bg := bg_in (List.mem_of_getElem? (i := 27) (by decide +kernel)) rfl
theorem wd_28 : (.fieldLink "HashTree$Digester" 18 "HashTree$Digester" "length" "I" : Cond) ∈ bg := bg_in (List.mem_of_getElem? (i := 28) (by decide +kernel)) rfl
theorem wd_29 : (.laysFinal "HashTree$Digester" "HashTree$Digester" "words" "[I" : Cond) ∈ bg := bg_in (List.mem_of_getElem? (i := 29) (by decide +kernel)) rfl
theorem wd_31 : (.laysFinal "HashTree$Digester" "HashTree$Digester" "w" "[I" : Cond) ∈ bg := bg_in (List.mem_of_getElem? (i := 31) (by decide +kernel)) rfl
theorem wd_33 : (.lays "HashTree$Digester" "HashTree$Digester" "length" "I" : Cond) ∈ bg := bg_in (List.mem_of_getElem? (i := 33) (by decide +kernel)) rfl
theorem wd_36 : (.arrayClass .long : Cond) ∈ bg := bg_in (List.mem_of_getElem? (i := 36) (by decide +kernel)) rfl
theorem wd_37 : (.arrayClass .int : Cond) ∈ bg := bg_in (List.mem_of_getElem? (i := 37) (by decide +kernel)) rfl
theorem wd_38 : (.classLink "HashTree" 20 "HashTree$Node" : Cond) ∈ bg := bg_in (List.mem_of_getElem? (i := 38) (by decide +kernel)) rfl
theorem wd_40 : (.fieldLink "HashTree" 9 "HashTree" "key" "[J" : Cond) ∈ bg := bg_in (List.mem_of_getElem? (i := 40) (by decide +kernel)) rfl
theorem wd_41 : (.fieldLink "HashTree" 16 "HashTree" "digester" "LHashTree$Digester;" : Cond) ∈ bg := bg_in (List.mem_of_getElem? (i := 41) (by decide +kernel)) rfl
theorem wd_42 : (.fieldLink "HashTree" 22 "HashTree" "open" "[LHashTree$Node;" : Cond) ∈ bg := bg_in (List.mem_of_getElem? (i := 42) (by decide +kernel)) rfl
theorem wd_43 : (.fieldLink "HashTree" 26 "HashTree" "top" "LHashTree$Node;" : Cond) ∈ bg := bg_in (List.mem_of_getElem? (i := 43) (by decide +kernel)) rfl
theorem wd_44 : (.fieldLink "HashTree" 30 "HashTree" "count" "I" : Cond) ∈ bg := bg_in (List.mem_of_getElem? (i := 44) (by decide +kernel)) rfl
theorem wd_45 : (.fieldLink "HashTree" 34 "HashTree" "siblings" "[J" : Cond) ∈ bg := bg_in (List.mem_of_getElem? (i := 45) (by decide +kernel)) rfl
theorem wd_46 : (.fieldLink "HashTree" 37 "HashTree" "lastSibling" "[J" : Cond) ∈ bg := bg_in (List.mem_of_getElem? (i := 46) (by decide +kernel)) rfl
theorem wd_47 : (.fieldLink "HashTree" 40 "HashTree" "end" "[J" : Cond) ∈ bg := bg_in (List.mem_of_getElem? (i := 47) (by decide +kernel)) rfl
theorem wd_48 : (.fieldLink "HashTree" 43 "HashTree" "ending" "I" : Cond) ∈ bg := bg_in (List.mem_of_getElem? (i := 48) (by decide +kernel)) rfl
theorem wd_49 : (.laysFinal "HashTree" "HashTree" "key" "[J" : Cond) ∈ bg := bg_in (List.mem_of_getElem? (i := 49) (by decide +kernel)) rfl
theorem wd_51 : (.laysFinal "HashTree" "HashTree" "digester" "LHashTree$Digester;" : Cond) ∈ bg := bg_in (List.mem_of_getElem? (i := 51) (by decide +kernel)) rfl
theorem wd_53 : (.laysFinal "HashTree" "HashTree" "open" "[LHashTree$Node;" : Cond) ∈ bg := bg_in (List.mem_of_getElem? (i := 53) (by decide +kernel)) rfl
theorem wd_55 : (.lays "HashTree" "HashTree" "top" "LHashTree$Node;" : Cond) ∈ bg := bg_in (List.mem_of_getElem? (i := 55) (by decide +kernel)) rfl
theorem wd_57 : (.lays "HashTree" "HashTree" "count" "I" : Cond) ∈ bg := bg_in (List.mem_of_getElem? (i := 57) (by decide +kernel)) rfl
theorem wd_59 : (.laysFinal "HashTree" "HashTree" "siblings" "[J" : Cond) ∈ bg := bg_in (List.mem_of_getElem? (i := 59) (by decide +kernel)) rfl
theorem wd_61 : (.laysFinal "HashTree" "HashTree" "lastSibling" "[J" : Cond) ∈ bg := bg_in (List.mem_of_getElem? (i := 61) (by decide +kernel)) rfl
theorem wd_63 : (.laysFinal "HashTree" "HashTree" "end" "[J" : Cond) ∈ bg := bg_in (List.mem_of_getElem? (i := 63) (by decide +kernel)) rfl
theorem wd_65 : (.lays "HashTree" "HashTree" "ending" "I" : Cond) ∈ bg := bg_in (List.mem_of_getElem? (i := 65) (by decide +kernel)) rfl
theorem wd_68 : (.methodLink "HashTreeLaw" 15 y_X_key : Cond) ∈ bg := bg_in (List.mem_of_getElem? (i := 68) (by decide +kernel)) rfl
theorem wd_69 : (.instanceMethod y_X_key : Cond) ∈ bg := bg_in (List.mem_of_getElem? (i := 69) (by decide +kernel)) rfl
theorem wd_70 : (.selects "HashTree" y_X_key y_X_key : Cond) ∈ bg := bg_in (List.mem_of_getElem? (i := 70) (by decide +kernel)) rfl
theorem wc_X_key : (.code y_X_key b_X_key 9 none : Cond) ∈ bg := bg_in (List.mem_of_getElem? (i := 71) (by decide +kernel)) rfl
def ws_X_key : List Cond := .code y_X_key b_X_key 9 none :: bg
theorem g_X_key : GoodIn bg ws_X_key := fun w h => (List.mem_cons.mp h).elim (fun e => e ▸ bg_good _ wc_X_key) (bg_good w)
theorem wd_72 : (.methodLink "HashTree" 46 y_X_fill : Cond) ∈ bg := bg_in (List.mem_of_getElem? (i := 72) (by decide +kernel)) rfl
theorem wd_73 : (.static y_X_fill : Cond) ∈ bg := bg_in (List.mem_of_getElem? (i := 73) (by decide +kernel)) rfl
theorem wc_X_fill : (.code y_X_fill b_X_fill 9 none : Cond) ∈ bg := bg_in (List.mem_of_getElem? (i := 74) (by decide +kernel)) rfl
def ws_X_fill : List Cond := .code y_X_fill b_X_fill 9 none :: bg
theorem g_X_fill : GoodIn bg ws_X_fill := fun w h => (List.mem_cons.mp h).elim (fun e => e ▸ bg_good _ wc_X_fill) (bg_good w)
theorem wd_75 : (.methodLink "HashTreeLaw" 20 y_X_set : Cond) ∈ bg := bg_in (List.mem_of_getElem? (i := 75) (by decide +kernel)) rfl
theorem wd_76 : (.instanceMethod y_X_set : Cond) ∈ bg := bg_in (List.mem_of_getElem? (i := 76) (by decide +kernel)) rfl
theorem wd_77 : (.selects "HashTree" y_X_set y_X_set : Cond) ∈ bg := bg_in (List.mem_of_getElem? (i := 77) (by decide +kernel)) rfl
theorem wc_X_set : (.code y_X_set b_X_set 11 (some .int) : Cond) ∈ bg := bg_in (List.mem_of_getElem? (i := 78) (by decide +kernel)) rfl
def ws_X_set : List Cond := .code y_X_set b_X_set 11 (some .int) :: bg
theorem g_X_set : GoodIn bg ws_X_set := fun w h => (List.mem_cons.mp h).elim (fun e => e ▸ bg_good _ wc_X_set) (bg_good w)
theorem wd_79 : (.methodLink "HashTree" 50 y_X_leafOfKey : Cond) ∈ bg := bg_in (List.mem_of_getElem? (i := 79) (by decide +kernel)) rfl
theorem wd_81 : (.instanceMethod y_X_leafOfKey : Cond) ∈ bg := bg_in (List.mem_of_getElem? (i := 81) (by decide +kernel)) rfl
theorem wc_X_leafOfKey : (.code y_X_leafOfKey b_X_leafOfKey 2 (some (.object "HashTree$Leaf")) : Cond) ∈ bg := bg_in (List.mem_of_getElem? (i := 82) (by decide +kernel)) rfl
def ws_X_leafOfKey : List Cond := .code y_X_leafOfKey b_X_leafOfKey 2 (some (.object "HashTree$Leaf")) :: bg
theorem g_X_leafOfKey : GoodIn bg ws_X_leafOfKey := fun w h => (List.mem_cons.mp h).elim (fun e => e ▸ bg_good _ wc_X_leafOfKey) (bg_good w)
theorem wd_83 : (.methodLink "HashTree" 112 y_X_nearestLeaf : Cond) ∈ bg := bg_in (List.mem_of_getElem? (i := 83) (by decide +kernel)) rfl
theorem wd_85 : (.instanceMethod y_X_nearestLeaf : Cond) ∈ bg := bg_in (List.mem_of_getElem? (i := 85) (by decide +kernel)) rfl
theorem wc_X_nearestLeaf : (.code y_X_nearestLeaf b_X_nearestLeaf 3 (some (.object "HashTree$Leaf")) : Cond) ∈ bg := bg_in (List.mem_of_getElem? (i := 86) (by decide +kernel)) rfl
def ws_X_nearestLeaf : List Cond := .code y_X_nearestLeaf b_X_nearestLeaf 3 (some (.object "HashTree$Leaf")) :: bg
theorem g_X_nearestLeaf : GoodIn bg ws_X_nearestLeaf := fun w h => (List.mem_cons.mp h).elim (fun e => e ▸ bg_good _ wc_X_nearestLeaf) (bg_good w)
theorem wd_87 : (.classLink "HashTree" 80 "HashTree$Branch" : Cond) ∈ bg := bg_in (List.mem_of_getElem? (i := 87) (by decide +kernel)) rfl
theorem wd_88 : (.methodLink "HashTree" 84 y_X_isOne : Cond) ∈ bg := bg_in (List.mem_of_getElem? (i := 88) (by decide +kernel)) rfl
theorem wd_89 : (.static y_X_isOne : Cond) ∈ bg := bg_in (List.mem_of_getElem? (i := 89) (by decide +kernel)) rfl
theorem wc_X_isOne : (.code y_X_isOne b_X_isOne 2 (some .boolean) : Cond) ∈ bg := bg_in (List.mem_of_getElem? (i := 90) (by decide +kernel)) rfl
def ws_X_isOne : List Cond := .code y_X_isOne b_X_isOne 2 (some .boolean) :: bg
theorem g_X_isOne : GoodIn bg ws_X_isOne := fun w h => (List.mem_cons.mp h).elim (fun e => e ▸ bg_good _ wc_X_isOne) (bg_good w)
theorem wd_91 : (.methodLink "HashTree" 88 y_B_half : Cond) ∈ bg := bg_in (List.mem_of_getElem? (i := 91) (by decide +kernel)) rfl
theorem wd_92 : (.instanceMethod y_B_half : Cond) ∈ bg := bg_in (List.mem_of_getElem? (i := 92) (by decide +kernel)) rfl
theorem wd_93 : (.selects "HashTree$Branch" y_B_half y_B_half : Cond) ∈ bg := bg_in (List.mem_of_getElem? (i := 93) (by decide +kernel)) rfl
theorem wc_B_half : (.code y_B_half b_B_half 2 (some (.object "HashTree$Node")) : Cond) ∈ bg := bg_in (List.mem_of_getElem? (i := 94) (by decide +kernel)) rfl
def ws_B_half : List Cond := .code y_B_half b_B_half 2 (some (.object "HashTree$Node")) :: bg
theorem g_B_half : GoodIn bg ws_B_half := fun w h => (List.mem_cons.mp h).elim (fun e => e ▸ bg_good _ wc_B_half) (bg_good w)
theorem wd_95 : (.classLink "HashTree" 59 "HashTree$Leaf" : Cond) ∈ bg := bg_in (List.mem_of_getElem? (i := 95) (by decide +kernel)) rfl
theorem wd_96 : (.methodLink "HashTree" 116 y_X_partingLevel : Cond) ∈ bg := bg_in (List.mem_of_getElem? (i := 96) (by decide +kernel)) rfl
theorem wd_97 : (.static y_X_partingLevel : Cond) ∈ bg := bg_in (List.mem_of_getElem? (i := 97) (by decide +kernel)) rfl
theorem wc_X_partingLevel : (.code y_X_partingLevel b_X_partingLevel 5 (some .int) : Cond) ∈ bg := bg_in (List.mem_of_getElem? (i := 98) (by decide +kernel)) rfl
def ws_X_partingLevel : List Cond := .code y_X_partingLevel b_X_partingLevel 5 (some .int) :: bg
theorem g_X_partingLevel : GoodIn bg ws_X_partingLevel := fun w h => (List.mem_cons.mp h).elim (fun e => e ▸ bg_good _ wc_X_partingLevel) (bg_good w)
theorem wd_99 : (.methodLink "HashTree" 145 y_JL_numberOfLeadingZeros : Cond) ∈ bg := bg_in (List.mem_of_getElem? (i := 99) (by decide +kernel)) rfl
theorem wd_100 : (.static y_JL_numberOfLeadingZeros : Cond) ∈ bg := bg_in (List.mem_of_getElem? (i := 100) (by decide +kernel)) rfl
theorem wc_JL_numberOfLeadingZeros : (.code y_JL_numberOfLeadingZeros b_JL_numberOfLeadingZeros 3 (some .int) : Cond) ∈ bg := bg_in (List.mem_of_getElem? (i := 101) (by decide +kernel)) rfl
def ws_JL_numberOfLeadingZeros : List Cond := .code y_JL_numberOfLeadingZeros b_JL_numberOfLeadingZeros 3 (some .int) :: bg
theorem g_JL_numberOfLeadingZeros : GoodIn bg ws_JL_numberOfLeadingZeros := fun w h => (List.mem_cons.mp h).elim (fun e => e ▸ bg_good _ wc_JL_numberOfLeadingZeros) (bg_good w)
theorem wd_102 : (.methodLink "java/lang/Long" 308 y_JI_numberOfLeadingZeros : Cond) ∈ bg := bg_in (List.mem_of_getElem? (i := 102) (by decide +kernel)) rfl
theorem wd_103 : (.static y_JI_numberOfLeadingZeros : Cond) ∈ bg := bg_in (List.mem_of_getElem? (i := 103) (by decide +kernel)) rfl
theorem wc_JI_numberOfLeadingZeros : (.code y_JI_numberOfLeadingZeros b_JI_numberOfLeadingZeros 2 (some .int) : Cond) ∈ bg := bg_in (List.mem_of_getElem? (i := 104) (by decide +kernel)) rfl
def ws_JI_numberOfLeadingZeros : List Cond := .code y_JI_numberOfLeadingZeros b_JI_numberOfLeadingZeros 2 (some .int) :: bg
theorem g_JI_numberOfLeadingZeros : GoodIn bg ws_JI_numberOfLeadingZeros := fun w h => (List.mem_cons.mp h).elim (fun e => e ▸ bg_good _ wc_JI_numberOfLeadingZeros) (bg_good w)
theorem wd_105 : (.constant "java/lang/Integer" 264 65536 : Cond) ∈ bg := bg_in (List.mem_of_getElem? (i := 105) (by decide +kernel)) rfl
theorem wd_106 : (.methodLink "HashTree" 54 y_X_stalePath : Cond) ∈ bg := bg_in (List.mem_of_getElem? (i := 106) (by decide +kernel)) rfl
theorem wd_108 : (.instanceMethod y_X_stalePath : Cond) ∈ bg := bg_in (List.mem_of_getElem? (i := 108) (by decide +kernel)) rfl
theorem wc_X_stalePath : (.code y_X_stalePath b_X_stalePath 5 (some (.object "HashTree$Branch")) : Cond) ∈ bg := bg_in (List.mem_of_getElem? (i := 109) (by decide +kernel)) rfl
def ws_X_stalePath : List Cond := .code y_X_stalePath b_X_stalePath 5 (some (.object "HashTree$Branch")) :: bg
theorem g_X_stalePath : GoodIn bg ws_X_stalePath := fun w h => (List.mem_cons.mp h).elim (fun e => e ▸ bg_good _ wc_X_stalePath) (bg_good w)
theorem wd_110 : (.instantiable "HashTree$Leaf" 5 : Cond) ∈ bg := bg_in (List.mem_of_getElem? (i := 110) (by decide +kernel)) rfl
theorem wd_111 : (.methodLink "HashTree" 67 ⟨"[J", "clone", "()Ljava/lang/Object;"⟩ : Cond) ∈ bg := bg_in (List.mem_of_getElem? (i := 111) (by decide +kernel)) rfl
theorem wd_112 : (.sameMethod "[J" "java/lang/Object" "clone" "()Ljava/lang/Object;" : Cond) ∈ bg := bg_in (List.mem_of_getElem? (i := 112) (by decide +kernel)) rfl
theorem wd_113 : (.native ⟨"java/lang/Object", "clone", "()Ljava/lang/Object;"⟩ : Cond) ∈ bg := bg_in (List.mem_of_getElem? (i := 113) (by decide +kernel)) rfl
theorem wd_114 : (.instanceMethod ⟨"java/lang/Object", "clone", "()Ljava/lang/Object;"⟩ : Cond) ∈ bg := bg_in (List.mem_of_getElem? (i := 114) (by decide +kernel)) rfl
theorem wd_115 : (.selects "[J" ⟨"[J", "clone", "()Ljava/lang/Object;"⟩ ⟨"java/lang/Object", "clone", "()Ljava/lang/Object;"⟩ : Cond) ∈ bg := bg_in (List.mem_of_getElem? (i := 115) (by decide +kernel)) rfl
theorem wd_117 : (.classLink "HashTree" 68 "[J" : Cond) ∈ bg := bg_in (List.mem_of_getElem? (i := 117) (by decide +kernel)) rfl
theorem wd_118 : (.methodLink "HashTree" 72 y_L_init : Cond) ∈ bg := bg_in (List.mem_of_getElem? (i := 118) (by decide +kernel)) rfl
theorem wd_119 : (.instanceMethod y_L_init : Cond) ∈ bg := bg_in (List.mem_of_getElem? (i := 119) (by decide +kernel)) rfl
theorem wc_L_init : (.code y_L_init b_L_init 2 none : Cond) ∈ bg := bg_in (List.mem_of_getElem? (i := 120) (by decide +kernel)) rfl
def ws_L_init : List Cond := .code y_L_init b_L_init 2 none :: bg
theorem g_L_init : GoodIn bg ws_L_init := fun w h => (List.mem_cons.mp h).elim (fun e => e ▸ bg_good _ wc_L_init) (bg_good w)
theorem wd_121 : (.methodLink "HashTree$Leaf" 3 y_N_init : Cond) ∈ bg := bg_in (List.mem_of_getElem? (i := 121) (by decide +kernel)) rfl
theorem wd_122 : (.instanceMethod y_N_init : Cond) ∈ bg := bg_in (List.mem_of_getElem? (i := 122) (by decide +kernel)) rfl
theorem wc_N_init : (.code y_N_init b_N_init 3 none : Cond) ∈ bg := bg_in (List.mem_of_getElem? (i := 123) (by decide +kernel)) rfl
def ws_N_init : List Cond := .code y_N_init b_N_init 3 none :: bg
theorem g_N_init : GoodIn bg ws_N_init := fun w h => (List.mem_cons.mp h).elim (fun e => e ▸ bg_good _ wc_N_init) (bg_good w)
theorem wd_124 : (.methodLink "HashTree$Node" 3 objectInit : Cond) ∈ bg := bg_in (List.mem_of_getElem? (i := 124) (by decide +kernel)) rfl
theorem wd_125 : (.fieldLink "HashTree$Leaf" 9 "HashTree$Leaf" "value" "[J" : Cond) ∈ bg := bg_in (List.mem_of_getElem? (i := 125) (by decide +kernel)) rfl
theorem wd_126 : (.fieldLink "HashTree" 64 "HashTree$Leaf" "value" "[J" : Cond) ∈ bg := bg_in (List.mem_of_getElem? (i := 126) (by decide +kernel)) rfl
theorem wd_127 : (.fieldLink "HashTree$Node" 19 "HashTree$Node" "key" "[J" : Cond) ∈ bg := bg_in (List.mem_of_getElem? (i := 127) (by decide +kernel)) rfl
theorem wd_128 : (.fieldLink "HashTree" 115 "HashTree$Leaf" "key" "[J" : Cond) ∈ bg := bg_in (List.mem_of_getElem? (i := 128) (by decide +kernel)) rfl
theorem wd_129 : (.sameField "HashTree$Leaf" "HashTree$Node" "key" "[J" : Cond) ∈ bg := bg_in (List.mem_of_getElem? (i := 129) (by decide +kernel)) rfl
theorem wd_130 : (.fieldLink "HashTree" 174 "HashTree$Branch" "key" "[J" : Cond) ∈ bg := bg_in (List.mem_of_getElem? (i := 130) (by decide +kernel)) rfl
theorem wd_131 : (.sameField "HashTree$Branch" "HashTree$Node" "key" "[J" : Cond) ∈ bg := bg_in (List.mem_of_getElem? (i := 131) (by decide +kernel)) rfl
theorem wd_132 : (.fieldLink "HashTree$Node" 22 "HashTree$Node" "level" "I" : Cond) ∈ bg := bg_in (List.mem_of_getElem? (i := 132) (by decide +kernel)) rfl
theorem wd_133 : (.fieldLink "HashTree" 79 "HashTree$Branch" "level" "I" : Cond) ∈ bg := bg_in (List.mem_of_getElem? (i := 133) (by decide +kernel)) rfl
theorem wd_134 : (.sameField "HashTree$Branch" "HashTree$Node" "level" "I" : Cond) ∈ bg := bg_in (List.mem_of_getElem? (i := 134) (by decide +kernel)) rfl
theorem wd_135 : (.fieldLink "HashTree" 163 "HashTree$Node" "level" "I" : Cond) ∈ bg := bg_in (List.mem_of_getElem? (i := 135) (by decide +kernel)) rfl
theorem wd_136 : (.fieldLink "HashTree$Node" 9 "HashTree$Node" "hash" "[J" : Cond) ∈ bg := bg_in (List.mem_of_getElem? (i := 136) (by decide +kernel)) rfl
theorem wd_137 : (.fieldLink "HashTree" 104 "HashTree$Node" "hash" "[J" : Cond) ∈ bg := bg_in (List.mem_of_getElem? (i := 137) (by decide +kernel)) rfl
theorem wd_138 : (.fieldLink "HashTree$Node" 15 "HashTree$Node" "fresh" "Z" : Cond) ∈ bg := bg_in (List.mem_of_getElem? (i := 138) (by decide +kernel)) rfl
theorem wd_139 : (.fieldLink "HashTree" 58 "HashTree$Leaf" "fresh" "Z" : Cond) ∈ bg := bg_in (List.mem_of_getElem? (i := 139) (by decide +kernel)) rfl
theorem wd_140 : (.sameField "HashTree$Leaf" "HashTree$Node" "fresh" "Z" : Cond) ∈ bg := bg_in (List.mem_of_getElem? (i := 140) (by decide +kernel)) rfl
theorem wd_141 : (.fieldLink "HashTree$Branch" 16 "HashTree$Node" "fresh" "Z" : Cond) ∈ bg := bg_in (List.mem_of_getElem? (i := 141) (by decide +kernel)) rfl
theorem wd_142 : (.fieldLink "HashTree" 92 "HashTree$Node" "fresh" "Z" : Cond) ∈ bg := bg_in (List.mem_of_getElem? (i := 142) (by decide +kernel)) rfl
theorem wd_143 : (.fieldLink "HashTree" 151 "HashTree$Branch" "fresh" "Z" : Cond) ∈ bg := bg_in (List.mem_of_getElem? (i := 143) (by decide +kernel)) rfl
theorem wd_144 : (.sameField "HashTree$Branch" "HashTree$Node" "fresh" "Z" : Cond) ∈ bg := bg_in (List.mem_of_getElem? (i := 144) (by decide +kernel)) rfl
theorem wd_145 : (.laysFinal "HashTree$Leaf" "HashTree$Leaf" "value" "[J" : Cond) ∈ bg := bg_in (List.mem_of_getElem? (i := 145) (by decide +kernel)) rfl
theorem wd_147 : (.laysFinal "HashTree$Leaf" "HashTree$Node" "key" "[J" : Cond) ∈ bg := bg_in (List.mem_of_getElem? (i := 147) (by decide +kernel)) rfl
theorem wd_149 : (.laysFinal "HashTree$Leaf" "HashTree$Node" "level" "I" : Cond) ∈ bg := bg_in (List.mem_of_getElem? (i := 149) (by decide +kernel)) rfl
theorem wd_151 : (.laysFinal "HashTree$Leaf" "HashTree$Node" "hash" "[J" : Cond) ∈ bg := bg_in (List.mem_of_getElem? (i := 151) (by decide +kernel)) rfl
theorem wd_153 : (.lays "HashTree$Leaf" "HashTree$Node" "fresh" "Z" : Cond) ∈ bg := bg_in (List.mem_of_getElem? (i := 153) (by decide +kernel)) rfl
theorem wd_156 : (.methodLink "HashTree" 75 y_X_insert : Cond) ∈ bg := bg_in (List.mem_of_getElem? (i := 156) (by decide +kernel)) rfl
theorem wd_158 : (.instanceMethod y_X_insert : Cond) ∈ bg := bg_in (List.mem_of_getElem? (i := 158) (by decide +kernel)) rfl
theorem wc_X_insert : (.code y_X_insert b_X_insert 7 none : Cond) ∈ bg := bg_in (List.mem_of_getElem? (i := 159) (by decide +kernel)) rfl
def ws_X_insert : List Cond := .code y_X_insert b_X_insert 7 none :: bg
theorem g_X_insert : GoodIn bg ws_X_insert := fun w h => (List.mem_cons.mp h).elim (fun e => e ▸ bg_good _ wc_X_insert) (bg_good w)
theorem wd_160 : (.instantiable "HashTree$Branch" 6 : Cond) ∈ bg := bg_in (List.mem_of_getElem? (i := 160) (by decide +kernel)) rfl
theorem wd_161 : (.methodLink "HashTree" 152 y_B_init : Cond) ∈ bg := bg_in (List.mem_of_getElem? (i := 161) (by decide +kernel)) rfl
theorem wd_162 : (.instanceMethod y_B_init : Cond) ∈ bg := bg_in (List.mem_of_getElem? (i := 162) (by decide +kernel)) rfl
theorem wc_B_init : (.code y_B_init b_B_init 5 none : Cond) ∈ bg := bg_in (List.mem_of_getElem? (i := 163) (by decide +kernel)) rfl
def ws_B_init : List Cond := .code y_B_init b_B_init 5 none :: bg
theorem g_B_init : GoodIn bg ws_B_init := fun w h => (List.mem_cons.mp h).elim (fun e => e ▸ bg_good _ wc_B_init) (bg_good w)
theorem wd_164 : (.methodLink "HashTree$Branch" 1 y_N_init : Cond) ∈ bg := bg_in (List.mem_of_getElem? (i := 164) (by decide +kernel)) rfl
theorem wd_165 : (.fieldLink "HashTree$Branch" 7 "HashTree$Branch" "zero" "LHashTree$Node;" : Cond) ∈ bg := bg_in (List.mem_of_getElem? (i := 165) (by decide +kernel)) rfl
theorem wd_166 : (.fieldLink "HashTree" 168 "HashTree$Branch" "zero" "LHashTree$Node;" : Cond) ∈ bg := bg_in (List.mem_of_getElem? (i := 166) (by decide +kernel)) rfl
theorem wd_167 : (.fieldLink "HashTree$Branch" 13 "HashTree$Branch" "one" "LHashTree$Node;" : Cond) ∈ bg := bg_in (List.mem_of_getElem? (i := 167) (by decide +kernel)) rfl
theorem wd_168 : (.fieldLink "HashTree" 171 "HashTree$Branch" "one" "LHashTree$Node;" : Cond) ∈ bg := bg_in (List.mem_of_getElem? (i := 168) (by decide +kernel)) rfl
theorem wd_169 : (.lays "HashTree$Branch" "HashTree$Branch" "zero" "LHashTree$Node;" : Cond) ∈ bg := bg_in (List.mem_of_getElem? (i := 169) (by decide +kernel)) rfl
theorem wd_171 : (.lays "HashTree$Branch" "HashTree$Branch" "one" "LHashTree$Node;" : Cond) ∈ bg := bg_in (List.mem_of_getElem? (i := 171) (by decide +kernel)) rfl
theorem wd_173 : (.laysFinal "HashTree$Branch" "HashTree$Node" "key" "[J" : Cond) ∈ bg := bg_in (List.mem_of_getElem? (i := 173) (by decide +kernel)) rfl
theorem wd_174 : (.laysFinal "HashTree$Branch" "HashTree$Node" "level" "I" : Cond) ∈ bg := bg_in (List.mem_of_getElem? (i := 174) (by decide +kernel)) rfl
theorem wd_175 : (.laysFinal "HashTree$Branch" "HashTree$Node" "hash" "[J" : Cond) ∈ bg := bg_in (List.mem_of_getElem? (i := 175) (by decide +kernel)) rfl
theorem wd_176 : (.lays "HashTree$Branch" "HashTree$Node" "fresh" "Z" : Cond) ∈ bg := bg_in (List.mem_of_getElem? (i := 176) (by decide +kernel)) rfl
theorem wd_178 : (.methodLink "HashTree" 93 y_X_hang : Cond) ∈ bg := bg_in (List.mem_of_getElem? (i := 178) (by decide +kernel)) rfl
theorem wd_180 : (.instanceMethod y_X_hang : Cond) ∈ bg := bg_in (List.mem_of_getElem? (i := 180) (by decide +kernel)) rfl
theorem wc_X_hang : (.code y_X_hang b_X_hang 3 none : Cond) ∈ bg := bg_in (List.mem_of_getElem? (i := 181) (by decide +kernel)) rfl
def ws_X_hang : List Cond := .code y_X_hang b_X_hang 3 none :: bg
theorem g_X_hang : GoodIn bg ws_X_hang := fun w h => (List.mem_cons.mp h).elim (fun e => e ▸ bg_good _ wc_X_hang) (bg_good w)
theorem wd_182 : (.methodLink "HashTree" 155 y_B_putHalf : Cond) ∈ bg := bg_in (List.mem_of_getElem? (i := 182) (by decide +kernel)) rfl
theorem wd_183 : (.instanceMethod y_B_putHalf : Cond) ∈ bg := bg_in (List.mem_of_getElem? (i := 183) (by decide +kernel)) rfl
theorem wd_184 : (.selects "HashTree$Branch" y_B_putHalf y_B_putHalf : Cond) ∈ bg := bg_in (List.mem_of_getElem? (i := 184) (by decide +kernel)) rfl
theorem wc_B_putHalf : (.code y_B_putHalf b_B_putHalf 3 none : Cond) ∈ bg := bg_in (List.mem_of_getElem? (i := 185) (by decide +kernel)) rfl
def ws_B_putHalf : List Cond := .code y_B_putHalf b_B_putHalf 3 none :: bg
theorem g_B_putHalf : GoodIn bg ws_B_putHalf := fun w h => (List.mem_cons.mp h).elim (fun e => e ▸ bg_good _ wc_B_putHalf) (bg_good w)
theorem wd_186 : (.methodLink "HashTreeLaw" 25 y_X_remove : Cond) ∈ bg := bg_in (List.mem_of_getElem? (i := 186) (by decide +kernel)) rfl
theorem wd_187 : (.instanceMethod y_X_remove : Cond) ∈ bg := bg_in (List.mem_of_getElem? (i := 187) (by decide +kernel)) rfl
theorem wd_188 : (.selects "HashTree" y_X_remove y_X_remove : Cond) ∈ bg := bg_in (List.mem_of_getElem? (i := 188) (by decide +kernel)) rfl
theorem wc_X_remove : (.code y_X_remove b_X_remove 3 (some .int) : Cond) ∈ bg := bg_in (List.mem_of_getElem? (i := 189) (by decide +kernel)) rfl
def ws_X_remove : List Cond := .code y_X_remove b_X_remove 3 (some .int) :: bg
theorem g_X_remove : GoodIn bg ws_X_remove := fun w h => (List.mem_cons.mp h).elim (fun e => e ▸ bg_good _ wc_X_remove) (bg_good w)
theorem wd_190 : (.methodLink "HashTreeLaw" 30 y_X_has : Cond) ∈ bg := bg_in (List.mem_of_getElem? (i := 190) (by decide +kernel)) rfl
theorem wd_191 : (.instanceMethod y_X_has : Cond) ∈ bg := bg_in (List.mem_of_getElem? (i := 191) (by decide +kernel)) rfl
theorem wd_192 : (.selects "HashTree" y_X_has y_X_has : Cond) ∈ bg := bg_in (List.mem_of_getElem? (i := 192) (by decide +kernel)) rfl
theorem wc_X_has : (.code y_X_has b_X_has 1 (some .boolean) : Cond) ∈ bg := bg_in (List.mem_of_getElem? (i := 193) (by decide +kernel)) rfl
def ws_X_has : List Cond := .code y_X_has b_X_has 1 (some .boolean) :: bg
theorem g_X_has : GoodIn bg ws_X_has := fun w h => (List.mem_cons.mp h).elim (fun e => e ▸ bg_good _ wc_X_has) (bg_good w)
theorem wd_194 : (.methodLink "HashTreeLaw" 35 y_X_value : Cond) ∈ bg := bg_in (List.mem_of_getElem? (i := 194) (by decide +kernel)) rfl
theorem wd_195 : (.instanceMethod y_X_value : Cond) ∈ bg := bg_in (List.mem_of_getElem? (i := 195) (by decide +kernel)) rfl
theorem wd_196 : (.selects "HashTree" y_X_value y_X_value : Cond) ∈ bg := bg_in (List.mem_of_getElem? (i := 196) (by decide +kernel)) rfl
theorem wc_X_value : (.code y_X_value b_X_value 3 (some .long) : Cond) ∈ bg := bg_in (List.mem_of_getElem? (i := 197) (by decide +kernel)) rfl
def ws_X_value : List Cond := .code y_X_value b_X_value 3 (some .long) :: bg
theorem g_X_value : GoodIn bg ws_X_value := fun w h => (List.mem_cons.mp h).elim (fun e => e ▸ bg_good _ wc_X_value) (bg_good w)
theorem wd_198 : (.methodLink "HashTree" 97 y_X_isNumber : Cond) ∈ bg := bg_in (List.mem_of_getElem? (i := 198) (by decide +kernel)) rfl
theorem wd_199 : (.static y_X_isNumber : Cond) ∈ bg := bg_in (List.mem_of_getElem? (i := 199) (by decide +kernel)) rfl
theorem wc_X_isNumber : (.code y_X_isNumber b_X_isNumber 1 (some .boolean) : Cond) ∈ bg := bg_in (List.mem_of_getElem? (i := 200) (by decide +kernel)) rfl
def ws_X_isNumber : List Cond := .code y_X_isNumber b_X_isNumber 1 (some .boolean) :: bg
theorem g_X_isNumber : GoodIn bg ws_X_isNumber := fun w h => (List.mem_cons.mp h).elim (fun e => e ▸ bg_good _ wc_X_isNumber) (bg_good w)
theorem wd_201 : (.methodLink "HashTreeLaw" 40 y_X_count : Cond) ∈ bg := bg_in (List.mem_of_getElem? (i := 201) (by decide +kernel)) rfl
theorem wd_202 : (.instanceMethod y_X_count : Cond) ∈ bg := bg_in (List.mem_of_getElem? (i := 202) (by decide +kernel)) rfl
theorem wd_203 : (.selects "HashTree" y_X_count y_X_count : Cond) ∈ bg := bg_in (List.mem_of_getElem? (i := 203) (by decide +kernel)) rfl
theorem wc_X_count : (.code y_X_count b_X_count 1 (some .int) : Cond) ∈ bg := bg_in (List.mem_of_getElem? (i := 204) (by decide +kernel)) rfl
def ws_X_count : List Cond := .code y_X_count b_X_count 1 (some .int) :: bg
theorem g_X_count : GoodIn bg ws_X_count := fun w h => (List.mem_cons.mp h).elim (fun e => e ▸ bg_good _ wc_X_count) (bg_good w)
theorem wd_205 : (.methodLink "HashTreeLaw" 44 y_X_root : Cond) ∈ bg := bg_in (List.mem_of_getElem? (i := 205) (by decide +kernel)) rfl
theorem wd_206 : (.instanceMethod y_X_root : Cond) ∈ bg := bg_in (List.mem_of_getElem? (i := 206) (by decide +kernel)) rfl
theorem wd_207 : (.selects "HashTree" y_X_root y_X_root : Cond) ∈ bg := bg_in (List.mem_of_getElem? (i := 207) (by decide +kernel)) rfl
theorem wc_X_root : (.code y_X_root b_X_root 2 (some .long) : Cond) ∈ bg := bg_in (List.mem_of_getElem? (i := 208) (by decide +kernel)) rfl
def ws_X_root : List Cond := .code y_X_root b_X_root 2 (some .long) :: bg
theorem g_X_root : GoodIn bg ws_X_root := fun w h => (List.mem_cons.mp h).elim (fun e => e ▸ bg_good _ wc_X_root) (bg_good w)
theorem wd_209 : (.methodLink "HashTree" 101 y_X_refresh : Cond) ∈ bg := bg_in (List.mem_of_getElem? (i := 209) (by decide +kernel)) rfl
theorem wd_211 : (.instanceMethod y_X_refresh : Cond) ∈ bg := bg_in (List.mem_of_getElem? (i := 211) (by decide +kernel)) rfl
theorem wc_X_refresh : (.code y_X_refresh b_X_refresh 6 none : Cond) ∈ bg := bg_in (List.mem_of_getElem? (i := 212) (by decide +kernel)) rfl
def ws_X_refresh : List Cond := .code y_X_refresh b_X_refresh 6 none :: bg
theorem g_X_refresh : GoodIn bg ws_X_refresh := fun w h => (List.mem_cons.mp h).elim (fun e => e ▸ bg_good _ wc_X_refresh) (bg_good w)
theorem wd_213 : (.methodLink "HashTree" 159 y_B_staleHalf : Cond) ∈ bg := bg_in (List.mem_of_getElem? (i := 213) (by decide +kernel)) rfl
theorem wd_214 : (.instanceMethod y_B_staleHalf : Cond) ∈ bg := bg_in (List.mem_of_getElem? (i := 214) (by decide +kernel)) rfl
theorem wd_215 : (.selects "HashTree$Branch" y_B_staleHalf y_B_staleHalf : Cond) ∈ bg := bg_in (List.mem_of_getElem? (i := 215) (by decide +kernel)) rfl
theorem wc_B_staleHalf : (.code y_B_staleHalf b_B_staleHalf 1 (some (.object "HashTree$Node")) : Cond) ∈ bg := bg_in (List.mem_of_getElem? (i := 216) (by decide +kernel)) rfl
def ws_B_staleHalf : List Cond := .code y_B_staleHalf b_B_staleHalf 1 (some (.object "HashTree$Node")) :: bg
theorem g_B_staleHalf : GoodIn bg ws_B_staleHalf := fun w h => (List.mem_cons.mp h).elim (fun e => e ▸ bg_good _ wc_B_staleHalf) (bg_good w)
theorem wd_217 : (.methodLink "HashTree" 124 y_X_hashAt : Cond) ∈ bg := bg_in (List.mem_of_getElem? (i := 217) (by decide +kernel)) rfl
theorem wd_219 : (.instanceMethod y_X_hashAt : Cond) ∈ bg := bg_in (List.mem_of_getElem? (i := 219) (by decide +kernel)) rfl
theorem wc_X_hashAt : (.code y_X_hashAt b_X_hashAt 8 none : Cond) ∈ bg := bg_in (List.mem_of_getElem? (i := 220) (by decide +kernel)) rfl
def ws_X_hashAt : List Cond := .code y_X_hashAt b_X_hashAt 8 none :: bg
theorem g_X_hashAt : GoodIn bg ws_X_hashAt := fun w h => (List.mem_cons.mp h).elim (fun e => e ▸ bg_good _ wc_X_hashAt) (bg_good w)
theorem wd_221 : (.methodLink "HashTree" 164 y_D_join : Cond) ∈ bg := bg_in (List.mem_of_getElem? (i := 221) (by decide +kernel)) rfl
theorem wd_222 : (.instanceMethod y_D_join : Cond) ∈ bg := bg_in (List.mem_of_getElem? (i := 222) (by decide +kernel)) rfl
theorem wd_223 : (.selects "HashTree$Digester" y_D_join y_D_join : Cond) ∈ bg := bg_in (List.mem_of_getElem? (i := 223) (by decide +kernel)) rfl
theorem wc_D_join : (.code y_D_join b_D_join 6 none : Cond) ∈ bg := bg_in (List.mem_of_getElem? (i := 224) (by decide +kernel)) rfl
def ws_D_join : List Cond := .code y_D_join b_D_join 6 none :: bg
theorem g_D_join : GoodIn bg ws_D_join := fun w h => (List.mem_cons.mp h).elim (fun e => e ▸ bg_good _ wc_D_join) (bg_good w)
theorem wd_225 : (.methodLink "HashTree$Digester" 45 y_D_begin : Cond) ∈ bg := bg_in (List.mem_of_getElem? (i := 225) (by decide +kernel)) rfl
theorem wd_226 : (.instanceMethod y_D_begin : Cond) ∈ bg := bg_in (List.mem_of_getElem? (i := 226) (by decide +kernel)) rfl
theorem wd_227 : (.selects "HashTree$Digester" y_D_begin y_D_begin : Cond) ∈ bg := bg_in (List.mem_of_getElem? (i := 227) (by decide +kernel)) rfl
theorem wc_D_begin : (.code y_D_begin b_D_begin 1 none : Cond) ∈ bg := bg_in (List.mem_of_getElem? (i := 228) (by decide +kernel)) rfl
def ws_D_begin : List Cond := .code y_D_begin b_D_begin 1 none :: bg
theorem g_D_begin : GoodIn bg ws_D_begin := fun w h => (List.mem_cons.mp h).elim (fun e => e ▸ bg_good _ wc_D_begin) (bg_good w)
theorem wd_229 : (.fieldLink "HashTree$Digester" 22 "HashTree$Digester" "FIRST_WORDS" "[I" : Cond) ∈ bg := bg_in (List.mem_of_getElem? (i := 229) (by decide +kernel)) rfl
theorem wd_231 : (.methodLink "HashTree$Digester" 25 arraycopyName : Cond) ∈ bg := bg_in (List.mem_of_getElem? (i := 231) (by decide +kernel)) rfl
theorem wd_232 : (.static arraycopyName : Cond) ∈ bg := bg_in (List.mem_of_getElem? (i := 232) (by decide +kernel)) rfl
theorem wd_233 : (.native arraycopyName : Cond) ∈ bg := bg_in (List.mem_of_getElem? (i := 233) (by decide +kernel)) rfl
theorem wd_234 : (.methodLink "HashTree$Digester" 37 y_D_take : Cond) ∈ bg := bg_in (List.mem_of_getElem? (i := 234) (by decide +kernel)) rfl
theorem wd_235 : (.instanceMethod y_D_take : Cond) ∈ bg := bg_in (List.mem_of_getElem? (i := 235) (by decide +kernel)) rfl
theorem wd_236 : (.selects "HashTree$Digester" y_D_take y_D_take : Cond) ∈ bg := bg_in (List.mem_of_getElem? (i := 236) (by decide +kernel)) rfl
theorem wc_D_take : (.code y_D_take b_D_take 3 none : Cond) ∈ bg := bg_in (List.mem_of_getElem? (i := 237) (by decide +kernel)) rfl
def ws_D_take : List Cond := .code y_D_take b_D_take 3 none :: bg
theorem g_D_take : GoodIn bg ws_D_take := fun w h => (List.mem_cons.mp h).elim (fun e => e ▸ bg_good _ wc_D_take) (bg_good w)
theorem wd_238 : (.methodLink "HashTree$Digester" 31 y_D_spread : Cond) ∈ bg := bg_in (List.mem_of_getElem? (i := 238) (by decide +kernel)) rfl
theorem wd_240 : (.instanceMethod y_D_spread : Cond) ∈ bg := bg_in (List.mem_of_getElem? (i := 240) (by decide +kernel)) rfl
theorem wc_D_spread : (.code y_D_spread b_D_spread 6 none : Cond) ∈ bg := bg_in (List.mem_of_getElem? (i := 241) (by decide +kernel)) rfl
def ws_D_spread : List Cond := .code y_D_spread b_D_spread 6 none :: bg
theorem g_D_spread : GoodIn bg ws_D_spread := fun w h => (List.mem_cons.mp h).elim (fun e => e ▸ bg_good _ wc_D_spread) (bg_good w)
theorem wd_242 : (.methodLink "HashTree$Digester" 59 y_JI_rotateRight : Cond) ∈ bg := bg_in (List.mem_of_getElem? (i := 242) (by decide +kernel)) rfl
theorem wd_243 : (.static y_JI_rotateRight : Cond) ∈ bg := bg_in (List.mem_of_getElem? (i := 243) (by decide +kernel)) rfl
theorem wc_JI_rotateRight : (.code y_JI_rotateRight b_JI_rotateRight 2 (some .int) : Cond) ∈ bg := bg_in (List.mem_of_getElem? (i := 244) (by decide +kernel)) rfl
def ws_JI_rotateRight : List Cond := .code y_JI_rotateRight b_JI_rotateRight 2 (some .int) :: bg
theorem g_JI_rotateRight : GoodIn bg ws_JI_rotateRight := fun w h => (List.mem_cons.mp h).elim (fun e => e ▸ bg_good _ wc_JI_rotateRight) (bg_good w)
theorem wd_245 : (.methodLink "HashTree$Digester" 34 y_D_mix : Cond) ∈ bg := bg_in (List.mem_of_getElem? (i := 245) (by decide +kernel)) rfl
theorem wd_247 : (.instanceMethod y_D_mix : Cond) ∈ bg := bg_in (List.mem_of_getElem? (i := 247) (by decide +kernel)) rfl
theorem wc_D_mix : (.code y_D_mix b_D_mix 14 none : Cond) ∈ bg := bg_in (List.mem_of_getElem? (i := 248) (by decide +kernel)) rfl
def ws_D_mix : List Cond := .code y_D_mix b_D_mix 14 none :: bg
theorem g_D_mix : GoodIn bg ws_D_mix := fun w h => (List.mem_cons.mp h).elim (fun e => e ▸ bg_good _ wc_D_mix) (bg_good w)
theorem wd_249 : (.fieldLink "HashTree$Digester" 65 "HashTree$Digester" "K" "[I" : Cond) ∈ bg := bg_in (List.mem_of_getElem? (i := 249) (by decide +kernel)) rfl
theorem wd_251 : (.methodLink "HashTree$Digester" 48 y_D_takeLowest : Cond) ∈ bg := bg_in (List.mem_of_getElem? (i := 251) (by decide +kernel)) rfl
theorem wd_252 : (.instanceMethod y_D_takeLowest : Cond) ∈ bg := bg_in (List.mem_of_getElem? (i := 252) (by decide +kernel)) rfl
theorem wd_253 : (.selects "HashTree$Digester" y_D_takeLowest y_D_takeLowest : Cond) ∈ bg := bg_in (List.mem_of_getElem? (i := 253) (by decide +kernel)) rfl
theorem wc_D_takeLowest : (.code y_D_takeLowest b_D_takeLowest 5 none : Cond) ∈ bg := bg_in (List.mem_of_getElem? (i := 254) (by decide +kernel)) rfl
def ws_D_takeLowest : List Cond := .code y_D_takeLowest b_D_takeLowest 5 none :: bg
theorem g_D_takeLowest : GoodIn bg ws_D_takeLowest := fun w h => (List.mem_cons.mp h).elim (fun e => e ▸ bg_good _ wc_D_takeLowest) (bg_good w)
theorem wd_255 : (.methodLink "HashTree$Digester" 52 y_D_finish : Cond) ∈ bg := bg_in (List.mem_of_getElem? (i := 255) (by decide +kernel)) rfl
theorem wd_256 : (.instanceMethod y_D_finish : Cond) ∈ bg := bg_in (List.mem_of_getElem? (i := 256) (by decide +kernel)) rfl
theorem wd_257 : (.selects "HashTree$Digester" y_D_finish y_D_finish : Cond) ∈ bg := bg_in (List.mem_of_getElem? (i := 257) (by decide +kernel)) rfl
theorem wc_D_finish : (.code y_D_finish b_D_finish 5 none : Cond) ∈ bg := bg_in (List.mem_of_getElem? (i := 258) (by decide +kernel)) rfl
def ws_D_finish : List Cond := .code y_D_finish b_D_finish 5 none :: bg
theorem g_D_finish : GoodIn bg ws_D_finish := fun w h => (List.mem_cons.mp h).elim (fun e => e ▸ bg_good _ wc_D_finish) (bg_good w)
theorem wd_259 : (.constantLong "HashTree$Digester" 41 8 : Cond) ∈ bg := bg_in (List.mem_of_getElem? (i := 259) (by decide +kernel)) rfl
theorem wd_260 : (.methodLink "HashTree$Digester" 55 y_D_number : Cond) ∈ bg := bg_in (List.mem_of_getElem? (i := 260) (by decide +kernel)) rfl
theorem wd_261 : (.instanceMethod y_D_number : Cond) ∈ bg := bg_in (List.mem_of_getElem? (i := 261) (by decide +kernel)) rfl
theorem wd_262 : (.selects "HashTree$Digester" y_D_number y_D_number : Cond) ∈ bg := bg_in (List.mem_of_getElem? (i := 262) (by decide +kernel)) rfl
theorem wc_D_number : (.code y_D_number b_D_number 3 (some .long) : Cond) ∈ bg := bg_in (List.mem_of_getElem? (i := 263) (by decide +kernel)) rfl
def ws_D_number : List Cond := .code y_D_number b_D_number 3 (some .long) :: bg
theorem g_D_number : GoodIn bg ws_D_number := fun w h => (List.mem_cons.mp h).elim (fun e => e ▸ bg_good _ wc_D_number) (bg_good w)
theorem wd_264 : (.constantLong "HashTree$Digester" 43 4294967295 : Cond) ∈ bg := bg_in (List.mem_of_getElem? (i := 264) (by decide +kernel)) rfl
theorem wd_265 : (.fieldLink "HashTree" 175 "HashTree" "EMPTY" "[J" : Cond) ∈ bg := bg_in (List.mem_of_getElem? (i := 265) (by decide +kernel)) rfl
theorem wd_267 : (.methodLink "HashTreeLaw" 48 y_X_prove : Cond) ∈ bg := bg_in (List.mem_of_getElem? (i := 267) (by decide +kernel)) rfl
theorem wd_268 : (.instanceMethod y_X_prove : Cond) ∈ bg := bg_in (List.mem_of_getElem? (i := 268) (by decide +kernel)) rfl
theorem wd_269 : (.selects "HashTree" y_X_prove y_X_prove : Cond) ∈ bg := bg_in (List.mem_of_getElem? (i := 269) (by decide +kernel)) rfl
theorem wc_X_prove : (.code y_X_prove b_X_prove 7 (some .int) : Cond) ∈ bg := bg_in (List.mem_of_getElem? (i := 270) (by decide +kernel)) rfl
def ws_X_prove : List Cond := .code y_X_prove b_X_prove 7 (some .int) :: bg
theorem g_X_prove : GoodIn bg ws_X_prove := fun w h => (List.mem_cons.mp h).elim (fun e => e ▸ bg_good _ wc_X_prove) (bg_good w)
theorem wd_271 : (.methodLink "HashTree" 107 y_JA_fill : Cond) ∈ bg := bg_in (List.mem_of_getElem? (i := 271) (by decide +kernel)) rfl
theorem wd_272 : (.static y_JA_fill : Cond) ∈ bg := bg_in (List.mem_of_getElem? (i := 272) (by decide +kernel)) rfl
theorem wc_JA_fill : (.code y_JA_fill b_JA_fill 5 none : Cond) ∈ bg := bg_in (List.mem_of_getElem? (i := 273) (by decide +kernel)) rfl
def ws_JA_fill : List Cond := .code y_JA_fill b_JA_fill 5 none :: bg
theorem g_JA_fill : GoodIn bg ws_JA_fill := fun w h => (List.mem_cons.mp h).elim (fun e => e ▸ bg_good _ wc_JA_fill) (bg_good w)
theorem wd_274 : (.methodLink "HashTree" 120 y_X_keepSibling : Cond) ∈ bg := bg_in (List.mem_of_getElem? (i := 274) (by decide +kernel)) rfl
theorem wd_276 : (.instanceMethod y_X_keepSibling : Cond) ∈ bg := bg_in (List.mem_of_getElem? (i := 276) (by decide +kernel)) rfl
theorem wc_X_keepSibling : (.code y_X_keepSibling b_X_keepSibling 3 none : Cond) ∈ bg := bg_in (List.mem_of_getElem? (i := 277) (by decide +kernel)) rfl
def ws_X_keepSibling : List Cond := .code y_X_keepSibling b_X_keepSibling 3 none :: bg
theorem g_X_keepSibling : GoodIn bg ws_X_keepSibling := fun w h => (List.mem_cons.mp h).elim (fun e => e ▸ bg_good _ wc_X_keepSibling) (bg_good w)
theorem wd_278 : (.methodLink "HashTree" 178 arraycopyName : Cond) ∈ bg := bg_in (List.mem_of_getElem? (i := 278) (by decide +kernel)) rfl
theorem wd_279 : (.methodLink "HashTree" 128 y_X_keepEnd : Cond) ∈ bg := bg_in (List.mem_of_getElem? (i := 279) (by decide +kernel)) rfl
theorem wd_281 : (.instanceMethod y_X_keepEnd : Cond) ∈ bg := bg_in (List.mem_of_getElem? (i := 281) (by decide +kernel)) rfl
theorem wc_X_keepEnd : (.code y_X_keepEnd b_X_keepEnd 2 none : Cond) ∈ bg := bg_in (List.mem_of_getElem? (i := 282) (by decide +kernel)) rfl
def ws_X_keepEnd : List Cond := .code y_X_keepEnd b_X_keepEnd 2 none :: bg
theorem g_X_keepEnd : GoodIn bg ws_X_keepEnd := fun w h => (List.mem_cons.mp h).elim (fun e => e ▸ bg_good _ wc_X_keepEnd) (bg_good w)
theorem wd_283 : (.methodLink "HashTreeLaw" 52 y_X_sibling : Cond) ∈ bg := bg_in (List.mem_of_getElem? (i := 283) (by decide +kernel)) rfl
theorem wd_284 : (.instanceMethod y_X_sibling : Cond) ∈ bg := bg_in (List.mem_of_getElem? (i := 284) (by decide +kernel)) rfl
theorem wd_285 : (.selects "HashTree" y_X_sibling y_X_sibling : Cond) ∈ bg := bg_in (List.mem_of_getElem? (i := 285) (by decide +kernel)) rfl
theorem wc_X_sibling : (.code y_X_sibling b_X_sibling 3 (some .long) : Cond) ∈ bg := bg_in (List.mem_of_getElem? (i := 286) (by decide +kernel)) rfl
def ws_X_sibling : List Cond := .code y_X_sibling b_X_sibling 3 (some .long) :: bg
theorem g_X_sibling : GoodIn bg ws_X_sibling := fun w h => (List.mem_cons.mp h).elim (fun e => e ▸ bg_good _ wc_X_sibling) (bg_good w)
theorem wd_287 : (.methodLink "HashTreeLaw" 57 y_X_ending : Cond) ∈ bg := bg_in (List.mem_of_getElem? (i := 287) (by decide +kernel)) rfl
theorem wd_288 : (.instanceMethod y_X_ending : Cond) ∈ bg := bg_in (List.mem_of_getElem? (i := 288) (by decide +kernel)) rfl
theorem wd_289 : (.selects "HashTree" y_X_ending y_X_ending : Cond) ∈ bg := bg_in (List.mem_of_getElem? (i := 289) (by decide +kernel)) rfl
theorem wc_X_ending : (.code y_X_ending b_X_ending 1 (some .int) : Cond) ∈ bg := bg_in (List.mem_of_getElem? (i := 290) (by decide +kernel)) rfl
def ws_X_ending : List Cond := .code y_X_ending b_X_ending 1 (some .int) :: bg
theorem g_X_ending : GoodIn bg ws_X_ending := fun w h => (List.mem_cons.mp h).elim (fun e => e ▸ bg_good _ wc_X_ending) (bg_good w)
theorem wd_291 : (.methodLink "HashTreeLaw" 61 y_X_endNumber : Cond) ∈ bg := bg_in (List.mem_of_getElem? (i := 291) (by decide +kernel)) rfl
theorem wd_292 : (.instanceMethod y_X_endNumber : Cond) ∈ bg := bg_in (List.mem_of_getElem? (i := 292) (by decide +kernel)) rfl
theorem wd_293 : (.selects "HashTree" y_X_endNumber y_X_endNumber : Cond) ∈ bg := bg_in (List.mem_of_getElem? (i := 293) (by decide +kernel)) rfl
theorem wc_X_endNumber : (.code y_X_endNumber b_X_endNumber 3 (some .long) : Cond) ∈ bg := bg_in (List.mem_of_getElem? (i := 294) (by decide +kernel)) rfl
def ws_X_endNumber : List Cond := .code y_X_endNumber b_X_endNumber 3 (some .long) :: bg
theorem g_X_endNumber : GoodIn bg ws_X_endNumber := fun w h => (List.mem_cons.mp h).elim (fun e => e ▸ bg_good _ wc_X_endNumber) (bg_good w)
theorem wd_295 : (.methodLink "HashTreeLaw" 65 y_X_digest : Cond) ∈ bg := bg_in (List.mem_of_getElem? (i := 295) (by decide +kernel)) rfl
theorem wd_296 : (.instanceMethod y_X_digest : Cond) ∈ bg := bg_in (List.mem_of_getElem? (i := 296) (by decide +kernel)) rfl
theorem wd_297 : (.selects "HashTree" y_X_digest y_X_digest : Cond) ∈ bg := bg_in (List.mem_of_getElem? (i := 297) (by decide +kernel)) rfl
theorem wc_X_digest : (.code y_X_digest b_X_digest 7 (some .long) : Cond) ∈ bg := bg_in (List.mem_of_getElem? (i := 298) (by decide +kernel)) rfl
def ws_X_digest : List Cond := .code y_X_digest b_X_digest 7 (some .long) :: bg
theorem g_X_digest : GoodIn bg ws_X_digest := fun w h => (List.mem_cons.mp h).elim (fun e => e ▸ bg_good _ wc_X_digest) (bg_good w)
theorem wd_299 : (.methodLink "HashTree" 131 y_D_begin : Cond) ∈ bg := bg_in (List.mem_of_getElem? (i := 299) (by decide +kernel)) rfl
theorem wd_300 : (.methodLink "HashTree" 134 y_D_takeLowest : Cond) ∈ bg := bg_in (List.mem_of_getElem? (i := 300) (by decide +kernel)) rfl
theorem wd_301 : (.methodLink "HashTree" 138 y_D_finish : Cond) ∈ bg := bg_in (List.mem_of_getElem? (i := 301) (by decide +kernel)) rfl
theorem wd_302 : (.methodLink "HashTree" 141 y_D_number : Cond) ∈ bg := bg_in (List.mem_of_getElem? (i := 302) (by decide +kernel)) rfl
theorem wd_303 : (.classLink "HashTreeLaw" 10 "HashTreeModel" : Cond) ∈ bg := bg_in (List.mem_of_getElem? (i := 303) (by decide +kernel)) rfl
theorem wd_304 : (.instantiable "HashTreeModel" 22 : Cond) ∈ bg := bg_in (List.mem_of_getElem? (i := 304) (by decide +kernel)) rfl
theorem wd_305 : (.methodLink "HashTreeLaw" 12 y_M_init : Cond) ∈ bg := bg_in (List.mem_of_getElem? (i := 305) (by decide +kernel)) rfl
theorem wd_306 : (.instanceMethod y_M_init : Cond) ∈ bg := bg_in (List.mem_of_getElem? (i := 306) (by decide +kernel)) rfl
theorem wc_M_init : (.code y_M_init b_M_init 1 none : Cond) ∈ bg := bg_in (List.mem_of_getElem? (i := 307) (by decide +kernel)) rfl
def ws_M_init : List Cond := .code y_M_init b_M_init 1 none :: bg
theorem g_M_init : GoodIn bg ws_M_init := fun w h => (List.mem_cons.mp h).elim (fun e => e ▸ bg_good _ wc_M_init) (bg_good w)
theorem wd_308 : (.methodLink "HashTreeModel" 1 objectInit : Cond) ∈ bg := bg_in (List.mem_of_getElem? (i := 308) (by decide +kernel)) rfl
theorem wd_309 : (.constant "HashTreeModel" 52 131072 : Cond) ∈ bg := bg_in (List.mem_of_getElem? (i := 309) (by decide +kernel)) rfl
theorem wd_310 : (.constant "HashTreeModel" 56 65536 : Cond) ∈ bg := bg_in (List.mem_of_getElem? (i := 310) (by decide +kernel)) rfl
theorem wd_311 : (.fieldLink "HashTreeModel" 7 "HashTreeModel" "keys" "[J" : Cond) ∈ bg := bg_in (List.mem_of_getElem? (i := 311) (by decide +kernel)) rfl
theorem wd_312 : (.fieldLink "HashTreeModel" 13 "HashTreeModel" "values" "[J" : Cond) ∈ bg := bg_in (List.mem_of_getElem? (i := 312) (by decide +kernel)) rfl
theorem wd_313 : (.fieldLink "HashTreeModel" 106 "HashTreeModel" "count" "I" : Cond) ∈ bg := bg_in (List.mem_of_getElem? (i := 313) (by decide +kernel)) rfl
theorem wd_314 : (.fieldLink "HashTreeModel" 16 "HashTreeModel" "now" "[J" : Cond) ∈ bg := bg_in (List.mem_of_getElem? (i := 314) (by decide +kernel)) rfl
theorem wd_315 : (.fieldLink "HashTreeModel" 19 "HashTreeModel" "begins" "[I" : Cond) ∈ bg := bg_in (List.mem_of_getElem? (i := 315) (by decide +kernel)) rfl
theorem wd_316 : (.fieldLink "HashTreeModel" 23 "HashTreeModel" "sizes" "[I" : Cond) ∈ bg := bg_in (List.mem_of_getElem? (i := 316) (by decide +kernel)) rfl
theorem wd_317 : (.fieldLink "HashTreeModel" 26 "HashTreeModel" "hashes" "[J" : Cond) ∈ bg := bg_in (List.mem_of_getElem? (i := 317) (by decide +kernel)) rfl
theorem wd_318 : (.fieldLink "HashTreeModel" 140 "HashTreeModel" "nodes" "I" : Cond) ∈ bg := bg_in (List.mem_of_getElem? (i := 318) (by decide +kernel)) rfl
theorem wd_319 : (.fieldLink "HashTreeModel" 29 "HashTreeModel" "root" "[J" : Cond) ∈ bg := bg_in (List.mem_of_getElem? (i := 319) (by decide +kernel)) rfl
theorem wd_320 : (.fieldLink "HashTreeModel" 170 "HashTreeModel" "rooted" "Z" : Cond) ∈ bg := bg_in (List.mem_of_getElem? (i := 320) (by decide +kernel)) rfl
theorem wd_321 : (.fieldLink "HashTreeModel" 32 "HashTreeModel" "siblings" "[J" : Cond) ∈ bg := bg_in (List.mem_of_getElem? (i := 321) (by decide +kernel)) rfl
theorem wd_322 : (.fieldLink "HashTreeModel" 180 "HashTreeModel" "depth" "I" : Cond) ∈ bg := bg_in (List.mem_of_getElem? (i := 322) (by decide +kernel)) rfl
theorem wd_323 : (.fieldLink "HashTreeModel" 35 "HashTreeModel" "ending" "I" : Cond) ∈ bg := bg_in (List.mem_of_getElem? (i := 323) (by decide +kernel)) rfl
theorem wd_324 : (.fieldLink "HashTreeModel" 39 "HashTreeModel" "end" "[J" : Cond) ∈ bg := bg_in (List.mem_of_getElem? (i := 324) (by decide +kernel)) rfl
theorem wd_325 : (.fieldLink "HashTreeModel" 42 "HashTreeModel" "message" "[B" : Cond) ∈ bg := bg_in (List.mem_of_getElem? (i := 325) (by decide +kernel)) rfl
theorem wd_326 : (.fieldLink "HashTreeModel" 46 "HashTreeModel" "words" "[J" : Cond) ∈ bg := bg_in (List.mem_of_getElem? (i := 326) (by decide +kernel)) rfl
theorem wd_327 : (.fieldLink "HashTreeModel" 49 "HashTreeModel" "kept" "[B" : Cond) ∈ bg := bg_in (List.mem_of_getElem? (i := 327) (by decide +kernel)) rfl
theorem wd_328 : (.fieldLink "HashTreeModel" 53 "HashTreeModel" "keptOf" "[J" : Cond) ∈ bg := bg_in (List.mem_of_getElem? (i := 328) (by decide +kernel)) rfl
theorem wd_329 : (.fieldLink "HashTreeModel" 57 "HashTreeModel" "keptDigests" "[J" : Cond) ∈ bg := bg_in (List.mem_of_getElem? (i := 329) (by decide +kernel)) rfl
theorem wd_330 : (.fieldLink "HashTreeModel" 60 "HashTreeModel" "pair" "[J" : Cond) ∈ bg := bg_in (List.mem_of_getElem? (i := 330) (by decide +kernel)) rfl
theorem wd_331 : (.fieldLink "HashTreeModel" 63 "HashTreeModel" "got" "[J" : Cond) ∈ bg := bg_in (List.mem_of_getElem? (i := 331) (by decide +kernel)) rfl
theorem wd_332 : (.fieldLink "HashTreeModel" 66 "HashTreeModel" "schedule" "[J" : Cond) ∈ bg := bg_in (List.mem_of_getElem? (i := 332) (by decide +kernel)) rfl
theorem wd_333 : (.laysFinal "HashTreeModel" "HashTreeModel" "keys" "[J" : Cond) ∈ bg := bg_in (List.mem_of_getElem? (i := 333) (by decide +kernel)) rfl
theorem wd_335 : (.laysFinal "HashTreeModel" "HashTreeModel" "values" "[J" : Cond) ∈ bg := bg_in (List.mem_of_getElem? (i := 335) (by decide +kernel)) rfl
theorem wd_337 : (.lays "HashTreeModel" "HashTreeModel" "count" "I" : Cond) ∈ bg := bg_in (List.mem_of_getElem? (i := 337) (by decide +kernel)) rfl
theorem wd_339 : (.laysFinal "HashTreeModel" "HashTreeModel" "now" "[J" : Cond) ∈ bg := bg_in (List.mem_of_getElem? (i := 339) (by decide +kernel)) rfl
theorem wd_341 : (.laysFinal "HashTreeModel" "HashTreeModel" "begins" "[I" : Cond) ∈ bg := bg_in (List.mem_of_getElem? (i := 341) (by decide +kernel)) rfl
theorem wd_343 : (.laysFinal "HashTreeModel" "HashTreeModel" "sizes" "[I" : Cond) ∈ bg := bg_in (List.mem_of_getElem? (i := 343) (by decide +kernel)) rfl
theorem wd_345 : (.laysFinal "HashTreeModel" "HashTreeModel" "hashes" "[J" : Cond) ∈ bg := bg_in (List.mem_of_getElem? (i := 345) (by decide +kernel)) rfl
theorem wd_347 : (.lays "HashTreeModel" "HashTreeModel" "nodes" "I" : Cond) ∈ bg := bg_in (List.mem_of_getElem? (i := 347) (by decide +kernel)) rfl
theorem wd_349 : (.laysFinal "HashTreeModel" "HashTreeModel" "root" "[J" : Cond) ∈ bg := bg_in (List.mem_of_getElem? (i := 349) (by decide +kernel)) rfl
theorem wd_351 : (.lays "HashTreeModel" "HashTreeModel" "rooted" "Z" : Cond) ∈ bg := bg_in (List.mem_of_getElem? (i := 351) (by decide +kernel)) rfl
theorem wd_353 : (.laysFinal "HashTreeModel" "HashTreeModel" "siblings" "[J" : Cond) ∈ bg := bg_in (List.mem_of_getElem? (i := 353) (by decide +kernel)) rfl
theorem wd_355 : (.lays "HashTreeModel" "HashTreeModel" "depth" "I" : Cond) ∈ bg := bg_in (List.mem_of_getElem? (i := 355) (by decide +kernel)) rfl
theorem wd_357 : (.lays "HashTreeModel" "HashTreeModel" "ending" "I" : Cond) ∈ bg := bg_in (List.mem_of_getElem? (i := 357) (by decide +kernel)) rfl
theorem wd_359 : (.laysFinal "HashTreeModel" "HashTreeModel" "end" "[J" : Cond) ∈ bg := bg_in (List.mem_of_getElem? (i := 359) (by decide +kernel)) rfl
theorem wd_361 : (.laysFinal "HashTreeModel" "HashTreeModel" "message" "[B" : Cond) ∈ bg := bg_in (List.mem_of_getElem? (i := 361) (by decide +kernel)) rfl
theorem wd_363 : (.laysFinal "HashTreeModel" "HashTreeModel" "words" "[J" : Cond) ∈ bg := bg_in (List.mem_of_getElem? (i := 363) (by decide +kernel)) rfl
theorem wd_365 : (.laysFinal "HashTreeModel" "HashTreeModel" "kept" "[B" : Cond) ∈ bg := bg_in (List.mem_of_getElem? (i := 365) (by decide +kernel)) rfl
theorem wd_367 : (.laysFinal "HashTreeModel" "HashTreeModel" "keptOf" "[J" : Cond) ∈ bg := bg_in (List.mem_of_getElem? (i := 367) (by decide +kernel)) rfl
theorem wd_369 : (.laysFinal "HashTreeModel" "HashTreeModel" "keptDigests" "[J" : Cond) ∈ bg := bg_in (List.mem_of_getElem? (i := 369) (by decide +kernel)) rfl
theorem wd_371 : (.laysFinal "HashTreeModel" "HashTreeModel" "pair" "[J" : Cond) ∈ bg := bg_in (List.mem_of_getElem? (i := 371) (by decide +kernel)) rfl
theorem wd_373 : (.laysFinal "HashTreeModel" "HashTreeModel" "got" "[J" : Cond) ∈ bg := bg_in (List.mem_of_getElem? (i := 373) (by decide +kernel)) rfl
theorem wd_375 : (.laysFinal "HashTreeModel" "HashTreeModel" "schedule" "[J" : Cond) ∈ bg := bg_in (List.mem_of_getElem? (i := 375) (by decide +kernel)) rfl
theorem wd_378 : (.arrayClass .byte : Cond) ∈ bg := bg_in (List.mem_of_getElem? (i := 378) (by decide +kernel)) rfl
theorem wd_379 : (.methodLink "HashTreeLaw" 19 y_M_key : Cond) ∈ bg := bg_in (List.mem_of_getElem? (i := 379) (by decide +kernel)) rfl
theorem wd_380 : (.instanceMethod y_M_key : Cond) ∈ bg := bg_in (List.mem_of_getElem? (i := 380) (by decide +kernel)) rfl
theorem wd_381 : (.selects "HashTreeModel" y_M_key y_M_key : Cond) ∈ bg := bg_in (List.mem_of_getElem? (i := 381) (by decide +kernel)) rfl
theorem wc_M_key : (.code y_M_key b_M_key 9 none : Cond) ∈ bg := bg_in (List.mem_of_getElem? (i := 382) (by decide +kernel)) rfl
def ws_M_key : List Cond := .code y_M_key b_M_key 9 none :: bg
theorem g_M_key : GoodIn bg ws_M_key := fun w h => (List.mem_cons.mp h).elim (fun e => e ▸ bg_good _ wc_M_key) (bg_good w)
theorem wd_383 : (.methodLink "HashTreeLaw" 24 y_M_set : Cond) ∈ bg := bg_in (List.mem_of_getElem? (i := 383) (by decide +kernel)) rfl
theorem wd_384 : (.instanceMethod y_M_set : Cond) ∈ bg := bg_in (List.mem_of_getElem? (i := 384) (by decide +kernel)) rfl
theorem wd_385 : (.selects "HashTreeModel" y_M_set y_M_set : Cond) ∈ bg := bg_in (List.mem_of_getElem? (i := 385) (by decide +kernel)) rfl
theorem wc_M_set : (.code y_M_set b_M_set 12 (some .int) : Cond) ∈ bg := bg_in (List.mem_of_getElem? (i := 386) (by decide +kernel)) rfl
def ws_M_set : List Cond := .code y_M_set b_M_set 12 (some .int) :: bg
theorem g_M_set : GoodIn bg ws_M_set := fun w h => (List.mem_cons.mp h).elim (fun e => e ▸ bg_good _ wc_M_set) (bg_good w)
theorem wd_387 : (.methodLink "HashTreeModel" 162 y_M_place : Cond) ∈ bg := bg_in (List.mem_of_getElem? (i := 387) (by decide +kernel)) rfl
theorem wd_389 : (.instanceMethod y_M_place : Cond) ∈ bg := bg_in (List.mem_of_getElem? (i := 389) (by decide +kernel)) rfl
theorem wc_M_place : (.code y_M_place b_M_place 2 (some .int) : Cond) ∈ bg := bg_in (List.mem_of_getElem? (i := 390) (by decide +kernel)) rfl
def ws_M_place : List Cond := .code y_M_place b_M_place 2 (some .int) :: bg
theorem g_M_place : GoodIn bg ws_M_place := fun w h => (List.mem_cons.mp h).elim (fun e => e ▸ bg_good _ wc_M_place) (bg_good w)
theorem wd_391 : (.methodLink "HashTreeModel" 109 y_M_compare : Cond) ∈ bg := bg_in (List.mem_of_getElem? (i := 391) (by decide +kernel)) rfl
theorem wd_392 : (.static y_M_compare : Cond) ∈ bg := bg_in (List.mem_of_getElem? (i := 392) (by decide +kernel)) rfl
theorem wc_M_compare : (.code y_M_compare b_M_compare 5 (some .int) : Cond) ∈ bg := bg_in (List.mem_of_getElem? (i := 393) (by decide +kernel)) rfl
def ws_M_compare : List Cond := .code y_M_compare b_M_compare 5 (some .int) :: bg
theorem g_M_compare : GoodIn bg ws_M_compare := fun w h => (List.mem_cons.mp h).elim (fun e => e ▸ bg_good _ wc_M_compare) (bg_good w)
theorem wd_394 : (.constantLong "HashTreeModel" 104 (-9223372036854775808) : Cond) ∈ bg := bg_in (List.mem_of_getElem? (i := 394) (by decide +kernel)) rfl
theorem wd_395 : (.methodLink "HashTreeModel" 166 y_M_isAt : Cond) ∈ bg := bg_in (List.mem_of_getElem? (i := 395) (by decide +kernel)) rfl
theorem wd_397 : (.instanceMethod y_M_isAt : Cond) ∈ bg := bg_in (List.mem_of_getElem? (i := 397) (by decide +kernel)) rfl
theorem wc_M_isAt : (.code y_M_isAt b_M_isAt 2 (some .boolean) : Cond) ∈ bg := bg_in (List.mem_of_getElem? (i := 398) (by decide +kernel)) rfl
def ws_M_isAt : List Cond := .code y_M_isAt b_M_isAt 2 (some .boolean) :: bg
theorem g_M_isAt : GoodIn bg ws_M_isAt := fun w h => (List.mem_cons.mp h).elim (fun e => e ▸ bg_good _ wc_M_isAt) (bg_good w)
theorem wd_399 : (.methodLink "HashTreeLaw" 29 y_M_remove : Cond) ∈ bg := bg_in (List.mem_of_getElem? (i := 399) (by decide +kernel)) rfl
theorem wd_400 : (.instanceMethod y_M_remove : Cond) ∈ bg := bg_in (List.mem_of_getElem? (i := 400) (by decide +kernel)) rfl
theorem wd_401 : (.selects "HashTreeModel" y_M_remove y_M_remove : Cond) ∈ bg := bg_in (List.mem_of_getElem? (i := 401) (by decide +kernel)) rfl
theorem wc_M_remove : (.code y_M_remove b_M_remove 3 (some .int) : Cond) ∈ bg := bg_in (List.mem_of_getElem? (i := 402) (by decide +kernel)) rfl
def ws_M_remove : List Cond := .code y_M_remove b_M_remove 3 (some .int) :: bg
theorem g_M_remove : GoodIn bg ws_M_remove := fun w h => (List.mem_cons.mp h).elim (fun e => e ▸ bg_good _ wc_M_remove) (bg_good w)
theorem wd_403 : (.methodLink "HashTreeLaw" 34 y_M_has : Cond) ∈ bg := bg_in (List.mem_of_getElem? (i := 403) (by decide +kernel)) rfl
theorem wd_404 : (.instanceMethod y_M_has : Cond) ∈ bg := bg_in (List.mem_of_getElem? (i := 404) (by decide +kernel)) rfl
theorem wd_405 : (.selects "HashTreeModel" y_M_has y_M_has : Cond) ∈ bg := bg_in (List.mem_of_getElem? (i := 405) (by decide +kernel)) rfl
theorem wc_M_has : (.code y_M_has b_M_has 1 (some .boolean) : Cond) ∈ bg := bg_in (List.mem_of_getElem? (i := 406) (by decide +kernel)) rfl
def ws_M_has : List Cond := .code y_M_has b_M_has 1 (some .boolean) :: bg
theorem g_M_has : GoodIn bg ws_M_has := fun w h => (List.mem_cons.mp h).elim (fun e => e ▸ bg_good _ wc_M_has) (bg_good w)
theorem wd_407 : (.methodLink "HashTreeLaw" 39 y_M_value : Cond) ∈ bg := bg_in (List.mem_of_getElem? (i := 407) (by decide +kernel)) rfl
theorem wd_408 : (.instanceMethod y_M_value : Cond) ∈ bg := bg_in (List.mem_of_getElem? (i := 408) (by decide +kernel)) rfl
theorem wd_409 : (.selects "HashTreeModel" y_M_value y_M_value : Cond) ∈ bg := bg_in (List.mem_of_getElem? (i := 409) (by decide +kernel)) rfl
theorem wc_M_value : (.code y_M_value b_M_value 3 (some .long) : Cond) ∈ bg := bg_in (List.mem_of_getElem? (i := 410) (by decide +kernel)) rfl
def ws_M_value : List Cond := .code y_M_value b_M_value 3 (some .long) :: bg
theorem g_M_value : GoodIn bg ws_M_value := fun w h => (List.mem_cons.mp h).elim (fun e => e ▸ bg_good _ wc_M_value) (bg_good w)
theorem wd_411 : (.methodLink "HashTreeModel" 174 y_M_isNumber : Cond) ∈ bg := bg_in (List.mem_of_getElem? (i := 411) (by decide +kernel)) rfl
theorem wd_412 : (.static y_M_isNumber : Cond) ∈ bg := bg_in (List.mem_of_getElem? (i := 412) (by decide +kernel)) rfl
theorem wc_M_isNumber : (.code y_M_isNumber b_M_isNumber 1 (some .boolean) : Cond) ∈ bg := bg_in (List.mem_of_getElem? (i := 413) (by decide +kernel)) rfl
def ws_M_isNumber : List Cond := .code y_M_isNumber b_M_isNumber 1 (some .boolean) :: bg
theorem g_M_isNumber : GoodIn bg ws_M_isNumber := fun w h => (List.mem_cons.mp h).elim (fun e => e ▸ bg_good _ wc_M_isNumber) (bg_good w)
theorem wd_414 : (.methodLink "HashTreeLaw" 43 y_M_count : Cond) ∈ bg := bg_in (List.mem_of_getElem? (i := 414) (by decide +kernel)) rfl
theorem wd_415 : (.instanceMethod y_M_count : Cond) ∈ bg := bg_in (List.mem_of_getElem? (i := 415) (by decide +kernel)) rfl
theorem wd_416 : (.selects "HashTreeModel" y_M_count y_M_count : Cond) ∈ bg := bg_in (List.mem_of_getElem? (i := 416) (by decide +kernel)) rfl
theorem wc_M_count : (.code y_M_count b_M_count 1 (some .int) : Cond) ∈ bg := bg_in (List.mem_of_getElem? (i := 417) (by decide +kernel)) rfl
def ws_M_count : List Cond := .code y_M_count b_M_count 1 (some .int) :: bg
theorem g_M_count : GoodIn bg ws_M_count := fun w h => (List.mem_cons.mp h).elim (fun e => e ▸ bg_good _ wc_M_count) (bg_good w)
theorem wd_418 : (.methodLink "HashTreeLaw" 47 y_M_root : Cond) ∈ bg := bg_in (List.mem_of_getElem? (i := 418) (by decide +kernel)) rfl
theorem wd_419 : (.instanceMethod y_M_root : Cond) ∈ bg := bg_in (List.mem_of_getElem? (i := 419) (by decide +kernel)) rfl
theorem wd_420 : (.selects "HashTreeModel" y_M_root y_M_root : Cond) ∈ bg := bg_in (List.mem_of_getElem? (i := 420) (by decide +kernel)) rfl
theorem wc_M_root : (.code y_M_root b_M_root 3 (some .long) : Cond) ∈ bg := bg_in (List.mem_of_getElem? (i := 421) (by decide +kernel)) rfl
def ws_M_root : List Cond := .code y_M_root b_M_root 3 (some .long) :: bg
theorem g_M_root : GoodIn bg ws_M_root := fun w h => (List.mem_cons.mp h).elim (fun e => e ▸ bg_good _ wc_M_root) (bg_good w)
theorem wd_422 : (.methodLink "HashTreeModel" 177 y_M_hash : Cond) ∈ bg := bg_in (List.mem_of_getElem? (i := 422) (by decide +kernel)) rfl
theorem wd_424 : (.instanceMethod y_M_hash : Cond) ∈ bg := bg_in (List.mem_of_getElem? (i := 424) (by decide +kernel)) rfl
theorem wc_M_hash : (.code y_M_hash b_M_hash 5 none : Cond) ∈ bg := bg_in (List.mem_of_getElem? (i := 425) (by decide +kernel)) rfl
def ws_M_hash : List Cond := .code y_M_hash b_M_hash 5 none :: bg
theorem g_M_hash : GoodIn bg ws_M_hash := fun w h => (List.mem_cons.mp h).elim (fun e => e ▸ bg_good _ wc_M_hash) (bg_good w)
theorem wd_426 : (.methodLink "HashTreeModel" 143 y_M_leaf : Cond) ∈ bg := bg_in (List.mem_of_getElem? (i := 426) (by decide +kernel)) rfl
theorem wd_428 : (.instanceMethod y_M_leaf : Cond) ∈ bg := bg_in (List.mem_of_getElem? (i := 428) (by decide +kernel)) rfl
theorem wc_M_leaf : (.code y_M_leaf b_M_leaf 4 none : Cond) ∈ bg := bg_in (List.mem_of_getElem? (i := 429) (by decide +kernel)) rfl
def ws_M_leaf : List Cond := .code y_M_leaf b_M_leaf 4 none :: bg
theorem g_M_leaf : GoodIn bg ws_M_leaf := fun w h => (List.mem_cons.mp h).elim (fun e => e ▸ bg_good _ wc_M_leaf) (bg_good w)
theorem wd_430 : (.methodLink "HashTreeModel" 136 y_M_join : Cond) ∈ bg := bg_in (List.mem_of_getElem? (i := 430) (by decide +kernel)) rfl
theorem wd_432 : (.instanceMethod y_M_join : Cond) ∈ bg := bg_in (List.mem_of_getElem? (i := 432) (by decide +kernel)) rfl
theorem wc_M_join : (.code y_M_join b_M_join 11 none : Cond) ∈ bg := bg_in (List.mem_of_getElem? (i := 433) (by decide +kernel)) rfl
def ws_M_join : List Cond := .code y_M_join b_M_join 11 none :: bg
theorem g_M_join : GoodIn bg ws_M_join := fun w h => (List.mem_cons.mp h).elim (fun e => e ▸ bg_good _ wc_M_join) (bg_good w)
theorem wd_434 : (.constantLong "HashTreeModel" 113 31 : Cond) ∈ bg := bg_in (List.mem_of_getElem? (i := 434) (by decide +kernel)) rfl
theorem wd_435 : (.constantLong "HashTreeModel" 115 17 : Cond) ∈ bg := bg_in (List.mem_of_getElem? (i := 435) (by decide +kernel)) rfl
theorem wd_436 : (.constantLong "HashTreeModel" 117 16384 : Cond) ∈ bg := bg_in (List.mem_of_getElem? (i := 436) (by decide +kernel)) rfl
theorem wd_437 : (.methodLink "HashTreeModel" 119 y_JM_floorMod : Cond) ∈ bg := bg_in (List.mem_of_getElem? (i := 437) (by decide +kernel)) rfl
theorem wd_438 : (.static y_JM_floorMod : Cond) ∈ bg := bg_in (List.mem_of_getElem? (i := 438) (by decide +kernel)) rfl
theorem wc_JM_floorMod : (.code y_JM_floorMod b_JM_floorMod 6 (some .long) : Cond) ∈ bg := bg_in (List.mem_of_getElem? (i := 439) (by decide +kernel)) rfl
def ws_JM_floorMod : List Cond := .code y_JM_floorMod b_JM_floorMod 6 (some .long) :: bg
theorem g_JM_floorMod : GoodIn bg ws_JM_floorMod := fun w h => (List.mem_cons.mp h).elim (fun e => e ▸ bg_good _ wc_JM_floorMod) (bg_good w)
theorem wd_440 : (.methodLink "HashTreeModel" 125 y_M_put : Cond) ∈ bg := bg_in (List.mem_of_getElem? (i := 440) (by decide +kernel)) rfl
theorem wd_442 : (.instanceMethod y_M_put : Cond) ∈ bg := bg_in (List.mem_of_getElem? (i := 442) (by decide +kernel)) rfl
theorem wc_M_put : (.code y_M_put b_M_put 5 none : Cond) ∈ bg := bg_in (List.mem_of_getElem? (i := 443) (by decide +kernel)) rfl
def ws_M_put : List Cond := .code y_M_put b_M_put 5 none :: bg
theorem g_M_put : GoodIn bg ws_M_put := fun w h => (List.mem_cons.mp h).elim (fun e => e ▸ bg_good _ wc_M_put) (bg_good w)
theorem wd_444 : (.methodLink "HashTreeModel" 129 y_M_digestOf : Cond) ∈ bg := bg_in (List.mem_of_getElem? (i := 444) (by decide +kernel)) rfl
theorem wd_446 : (.instanceMethod y_M_digestOf : Cond) ∈ bg := bg_in (List.mem_of_getElem? (i := 446) (by decide +kernel)) rfl
theorem wc_M_digestOf : (.code y_M_digestOf b_M_digestOf 4 none : Cond) ∈ bg := bg_in (List.mem_of_getElem? (i := 447) (by decide +kernel)) rfl
def ws_M_digestOf : List Cond := .code y_M_digestOf b_M_digestOf 4 none :: bg
theorem g_M_digestOf : GoodIn bg ws_M_digestOf := fun w h => (List.mem_cons.mp h).elim (fun e => e ▸ bg_good _ wc_M_digestOf) (bg_good w)
theorem wd_448 : (.constantLong "HashTreeModel" 71 1779033703 : Cond) ∈ bg := bg_in (List.mem_of_getElem? (i := 448) (by decide +kernel)) rfl
theorem wd_449 : (.constantLong "HashTreeModel" 73 3144134277 : Cond) ∈ bg := bg_in (List.mem_of_getElem? (i := 449) (by decide +kernel)) rfl
theorem wd_450 : (.constantLong "HashTreeModel" 75 1013904242 : Cond) ∈ bg := bg_in (List.mem_of_getElem? (i := 450) (by decide +kernel)) rfl
theorem wd_451 : (.constantLong "HashTreeModel" 77 2773480762 : Cond) ∈ bg := bg_in (List.mem_of_getElem? (i := 451) (by decide +kernel)) rfl
theorem wd_452 : (.constantLong "HashTreeModel" 79 1359893119 : Cond) ∈ bg := bg_in (List.mem_of_getElem? (i := 452) (by decide +kernel)) rfl
theorem wd_453 : (.constantLong "HashTreeModel" 81 2600822924 : Cond) ∈ bg := bg_in (List.mem_of_getElem? (i := 453) (by decide +kernel)) rfl
theorem wd_454 : (.constantLong "HashTreeModel" 83 528734635 : Cond) ∈ bg := bg_in (List.mem_of_getElem? (i := 454) (by decide +kernel)) rfl
theorem wd_455 : (.constantLong "HashTreeModel" 85 1541459225 : Cond) ∈ bg := bg_in (List.mem_of_getElem? (i := 455) (by decide +kernel)) rfl
theorem wd_456 : (.constantLong "HashTreeModel" 87 8 : Cond) ∈ bg := bg_in (List.mem_of_getElem? (i := 456) (by decide +kernel)) rfl
theorem wd_457 : (.methodLink "HashTreeModel" 89 y_M_block : Cond) ∈ bg := bg_in (List.mem_of_getElem? (i := 457) (by decide +kernel)) rfl
theorem wd_459 : (.instanceMethod y_M_block : Cond) ∈ bg := bg_in (List.mem_of_getElem? (i := 459) (by decide +kernel)) rfl
theorem wc_M_block : (.code y_M_block b_M_block 23 none : Cond) ∈ bg := bg_in (List.mem_of_getElem? (i := 460) (by decide +kernel)) rfl
def ws_M_block : List Cond := .code y_M_block b_M_block 23 none :: bg
theorem g_M_block : GoodIn bg ws_M_block := fun w h => (List.mem_cons.mp h).elim (fun e => e ▸ bg_good _ wc_M_block) (bg_good w)
theorem wd_461 : (.constantLong "HashTreeModel" 93 256 : Cond) ∈ bg := bg_in (List.mem_of_getElem? (i := 461) (by decide +kernel)) rfl
theorem wd_462 : (.methodLink "HashTreeModel" 95 y_M_turned : Cond) ∈ bg := bg_in (List.mem_of_getElem? (i := 462) (by decide +kernel)) rfl
theorem wd_463 : (.static y_M_turned : Cond) ∈ bg := bg_in (List.mem_of_getElem? (i := 463) (by decide +kernel)) rfl
theorem wc_M_turned : (.code y_M_turned b_M_turned 3 (some .long) : Cond) ∈ bg := bg_in (List.mem_of_getElem? (i := 464) (by decide +kernel)) rfl
def ws_M_turned : List Cond := .code y_M_turned b_M_turned 3 (some .long) :: bg
theorem g_M_turned : GoodIn bg ws_M_turned := fun w h => (List.mem_cons.mp h).elim (fun e => e ▸ bg_good _ wc_M_turned) (bg_good w)
theorem wd_465 : (.constantLong "HashTreeModel" 69 4294967295 : Cond) ∈ bg := bg_in (List.mem_of_getElem? (i := 465) (by decide +kernel)) rfl
theorem wd_466 : (.fieldLink "HashTreeModel" 99 "HashTreeModel" "CONSTANTS" "[J" : Cond) ∈ bg := bg_in (List.mem_of_getElem? (i := 466) (by decide +kernel)) rfl
theorem wd_468 : (.methodLink "HashTreeModel" 132 y_M_wordPair : Cond) ∈ bg := bg_in (List.mem_of_getElem? (i := 468) (by decide +kernel)) rfl
theorem wd_470 : (.instanceMethod y_M_wordPair : Cond) ∈ bg := bg_in (List.mem_of_getElem? (i := 470) (by decide +kernel)) rfl
theorem wc_M_wordPair : (.code y_M_wordPair b_M_wordPair 2 (some .long) : Cond) ∈ bg := bg_in (List.mem_of_getElem? (i := 471) (by decide +kernel)) rfl
def ws_M_wordPair : List Cond := .code y_M_wordPair b_M_wordPair 2 (some .long) :: bg
theorem g_M_wordPair : GoodIn bg ws_M_wordPair := fun w h => (List.mem_cons.mp h).elim (fun e => e ▸ bg_good _ wc_M_wordPair) (bg_good w)
theorem wd_472 : (.methodLink "HashTreeModel" 147 y_M_step : Cond) ∈ bg := bg_in (List.mem_of_getElem? (i := 472) (by decide +kernel)) rfl
theorem wd_474 : (.instanceMethod y_M_step : Cond) ∈ bg := bg_in (List.mem_of_getElem? (i := 474) (by decide +kernel)) rfl
theorem wc_M_step : (.code y_M_step b_M_step 8 none : Cond) ∈ bg := bg_in (List.mem_of_getElem? (i := 475) (by decide +kernel)) rfl
def ws_M_step : List Cond := .code y_M_step b_M_step 8 none :: bg
theorem g_M_step : GoodIn bg ws_M_step := fun w h => (List.mem_cons.mp h).elim (fun e => e ▸ bg_good _ wc_M_step) (bg_good w)
theorem wd_476 : (.methodLink "HashTreeModel" 150 y_M_agree : Cond) ∈ bg := bg_in (List.mem_of_getElem? (i := 476) (by decide +kernel)) rfl
theorem wd_478 : (.instanceMethod y_M_agree : Cond) ∈ bg := bg_in (List.mem_of_getElem? (i := 478) (by decide +kernel)) rfl
theorem wc_M_agree : (.code y_M_agree b_M_agree 7 (some .boolean) : Cond) ∈ bg := bg_in (List.mem_of_getElem? (i := 479) (by decide +kernel)) rfl
def ws_M_agree : List Cond := .code y_M_agree b_M_agree 7 (some .boolean) :: bg
theorem g_M_agree : GoodIn bg ws_M_agree := fun w h => (List.mem_cons.mp h).elim (fun e => e ▸ bg_good _ wc_M_agree) (bg_good w)
theorem wd_480 : (.methodLink "HashTreeModel" 154 y_M_fork : Cond) ∈ bg := bg_in (List.mem_of_getElem? (i := 480) (by decide +kernel)) rfl
theorem wd_482 : (.instanceMethod y_M_fork : Cond) ∈ bg := bg_in (List.mem_of_getElem? (i := 482) (by decide +kernel)) rfl
theorem wc_M_fork : (.code y_M_fork b_M_fork 5 none : Cond) ∈ bg := bg_in (List.mem_of_getElem? (i := 483) (by decide +kernel)) rfl
def ws_M_fork : List Cond := .code y_M_fork b_M_fork 5 none :: bg
theorem g_M_fork : GoodIn bg ws_M_fork := fun w h => (List.mem_cons.mp h).elim (fun e => e ▸ bg_good _ wc_M_fork) (bg_good w)
theorem wd_484 : (.methodLink "HashTreeModel" 158 y_M_bit : Cond) ∈ bg := bg_in (List.mem_of_getElem? (i := 484) (by decide +kernel)) rfl
theorem wd_485 : (.static y_M_bit : Cond) ∈ bg := bg_in (List.mem_of_getElem? (i := 485) (by decide +kernel)) rfl
theorem wc_M_bit : (.code y_M_bit b_M_bit 3 (some .int) : Cond) ∈ bg := bg_in (List.mem_of_getElem? (i := 486) (by decide +kernel)) rfl
def ws_M_bit : List Cond := .code y_M_bit b_M_bit 3 (some .int) :: bg
theorem g_M_bit : GoodIn bg ws_M_bit := fun w h => (List.mem_cons.mp h).elim (fun e => e ▸ bg_good _ wc_M_bit) (bg_good w)
theorem wd_487 : (.methodLink "HashTreeLaw" 51 y_M_prove : Cond) ∈ bg := bg_in (List.mem_of_getElem? (i := 487) (by decide +kernel)) rfl
theorem wd_488 : (.instanceMethod y_M_prove : Cond) ∈ bg := bg_in (List.mem_of_getElem? (i := 488) (by decide +kernel)) rfl
theorem wd_489 : (.selects "HashTreeModel" y_M_prove y_M_prove : Cond) ∈ bg := bg_in (List.mem_of_getElem? (i := 489) (by decide +kernel)) rfl
theorem wc_M_prove : (.code y_M_prove b_M_prove 8 (some .int) : Cond) ∈ bg := bg_in (List.mem_of_getElem? (i := 490) (by decide +kernel)) rfl
def ws_M_prove : List Cond := .code y_M_prove b_M_prove 8 (some .int) :: bg
theorem g_M_prove : GoodIn bg ws_M_prove := fun w h => (List.mem_cons.mp h).elim (fun e => e ▸ bg_good _ wc_M_prove) (bg_good w)
theorem wd_491 : (.methodLink "HashTreeLaw" 56 y_M_sibling : Cond) ∈ bg := bg_in (List.mem_of_getElem? (i := 491) (by decide +kernel)) rfl
theorem wd_492 : (.instanceMethod y_M_sibling : Cond) ∈ bg := bg_in (List.mem_of_getElem? (i := 492) (by decide +kernel)) rfl
theorem wd_493 : (.selects "HashTreeModel" y_M_sibling y_M_sibling : Cond) ∈ bg := bg_in (List.mem_of_getElem? (i := 493) (by decide +kernel)) rfl
theorem wc_M_sibling : (.code y_M_sibling b_M_sibling 3 (some .long) : Cond) ∈ bg := bg_in (List.mem_of_getElem? (i := 494) (by decide +kernel)) rfl
def ws_M_sibling : List Cond := .code y_M_sibling b_M_sibling 3 (some .long) :: bg
theorem g_M_sibling : GoodIn bg ws_M_sibling := fun w h => (List.mem_cons.mp h).elim (fun e => e ▸ bg_good _ wc_M_sibling) (bg_good w)
theorem wd_495 : (.methodLink "HashTreeLaw" 60 y_M_ending : Cond) ∈ bg := bg_in (List.mem_of_getElem? (i := 495) (by decide +kernel)) rfl
theorem wd_496 : (.instanceMethod y_M_ending : Cond) ∈ bg := bg_in (List.mem_of_getElem? (i := 496) (by decide +kernel)) rfl
theorem wd_497 : (.selects "HashTreeModel" y_M_ending y_M_ending : Cond) ∈ bg := bg_in (List.mem_of_getElem? (i := 497) (by decide +kernel)) rfl
theorem wc_M_ending : (.code y_M_ending b_M_ending 1 (some .int) : Cond) ∈ bg := bg_in (List.mem_of_getElem? (i := 498) (by decide +kernel)) rfl
def ws_M_ending : List Cond := .code y_M_ending b_M_ending 1 (some .int) :: bg
theorem g_M_ending : GoodIn bg ws_M_ending := fun w h => (List.mem_cons.mp h).elim (fun e => e ▸ bg_good _ wc_M_ending) (bg_good w)
theorem wd_499 : (.methodLink "HashTreeLaw" 64 y_M_endNumber : Cond) ∈ bg := bg_in (List.mem_of_getElem? (i := 499) (by decide +kernel)) rfl
theorem wd_500 : (.instanceMethod y_M_endNumber : Cond) ∈ bg := bg_in (List.mem_of_getElem? (i := 500) (by decide +kernel)) rfl
theorem wd_501 : (.selects "HashTreeModel" y_M_endNumber y_M_endNumber : Cond) ∈ bg := bg_in (List.mem_of_getElem? (i := 501) (by decide +kernel)) rfl
theorem wc_M_endNumber : (.code y_M_endNumber b_M_endNumber 3 (some .long) : Cond) ∈ bg := bg_in (List.mem_of_getElem? (i := 502) (by decide +kernel)) rfl
def ws_M_endNumber : List Cond := .code y_M_endNumber b_M_endNumber 3 (some .long) :: bg
theorem g_M_endNumber : GoodIn bg ws_M_endNumber := fun w h => (List.mem_cons.mp h).elim (fun e => e ▸ bg_good _ wc_M_endNumber) (bg_good w)
theorem wd_503 : (.methodLink "HashTreeLaw" 69 y_M_digest : Cond) ∈ bg := bg_in (List.mem_of_getElem? (i := 503) (by decide +kernel)) rfl
theorem wd_504 : (.instanceMethod y_M_digest : Cond) ∈ bg := bg_in (List.mem_of_getElem? (i := 504) (by decide +kernel)) rfl
theorem wd_505 : (.selects "HashTreeModel" y_M_digest y_M_digest : Cond) ∈ bg := bg_in (List.mem_of_getElem? (i := 505) (by decide +kernel)) rfl
theorem wc_M_digest : (.code y_M_digest b_M_digest 9 (some .long) : Cond) ∈ bg := bg_in (List.mem_of_getElem? (i := 506) (by decide +kernel)) rfl
def ws_M_digest : List Cond := .code y_M_digest b_M_digest 9 (some .long) :: bg
theorem g_M_digest : GoodIn bg ws_M_digest := fun w h => (List.mem_cons.mp h).elim (fun e => e ▸ bg_good _ wc_M_digest) (bg_good w)
theorem wd_507 : (.constantLong "HashTreeLaw" 13 4294967295 : Cond) ∈ bg := bg_in (List.mem_of_getElem? (i := 507) (by decide +kernel)) rfl
theorem sl_0 : (.selects "HashTree" y_X_leafOfKey y_X_leafOfKey : Cond) ∈ bg := bg_sel (List.mem_of_getElem? (i := 0) (by decide +kernel)) rfl
theorem sl_1 : (.selects "HashTree" y_X_nearestLeaf y_X_nearestLeaf : Cond) ∈ bg := bg_sel (List.mem_of_getElem? (i := 1) (by decide +kernel)) rfl
theorem sl_2 : (.selects "HashTree" y_X_stalePath y_X_stalePath : Cond) ∈ bg := bg_sel (List.mem_of_getElem? (i := 2) (by decide +kernel)) rfl
theorem sl_3 : (.selects "HashTree" y_X_insert y_X_insert : Cond) ∈ bg := bg_sel (List.mem_of_getElem? (i := 3) (by decide +kernel)) rfl
theorem sl_4 : (.selects "HashTree" y_X_hang y_X_hang : Cond) ∈ bg := bg_sel (List.mem_of_getElem? (i := 4) (by decide +kernel)) rfl
theorem sl_5 : (.selects "HashTree" y_X_refresh y_X_refresh : Cond) ∈ bg := bg_sel (List.mem_of_getElem? (i := 5) (by decide +kernel)) rfl
theorem sl_6 : (.selects "HashTree" y_X_hashAt y_X_hashAt : Cond) ∈ bg := bg_sel (List.mem_of_getElem? (i := 6) (by decide +kernel)) rfl
theorem sl_7 : (.selects "HashTree$Digester" y_D_spread y_D_spread : Cond) ∈ bg := bg_sel (List.mem_of_getElem? (i := 7) (by decide +kernel)) rfl
theorem sl_8 : (.selects "HashTree$Digester" y_D_mix y_D_mix : Cond) ∈ bg := bg_sel (List.mem_of_getElem? (i := 8) (by decide +kernel)) rfl
theorem sl_9 : (.selects "HashTree" y_X_keepSibling y_X_keepSibling : Cond) ∈ bg := bg_sel (List.mem_of_getElem? (i := 9) (by decide +kernel)) rfl
theorem sl_10 : (.selects "HashTree" y_X_keepEnd y_X_keepEnd : Cond) ∈ bg := bg_sel (List.mem_of_getElem? (i := 10) (by decide +kernel)) rfl
theorem sl_11 : (.selects "HashTreeModel" y_M_place y_M_place : Cond) ∈ bg := bg_sel (List.mem_of_getElem? (i := 11) (by decide +kernel)) rfl
theorem sl_12 : (.selects "HashTreeModel" y_M_isAt y_M_isAt : Cond) ∈ bg := bg_sel (List.mem_of_getElem? (i := 12) (by decide +kernel)) rfl
theorem sl_13 : (.selects "HashTreeModel" y_M_hash y_M_hash : Cond) ∈ bg := bg_sel (List.mem_of_getElem? (i := 13) (by decide +kernel)) rfl
theorem sl_14 : (.selects "HashTreeModel" y_M_leaf y_M_leaf : Cond) ∈ bg := bg_sel (List.mem_of_getElem? (i := 14) (by decide +kernel)) rfl
theorem sl_15 : (.selects "HashTreeModel" y_M_join y_M_join : Cond) ∈ bg := bg_sel (List.mem_of_getElem? (i := 15) (by decide +kernel)) rfl
theorem sl_16 : (.selects "HashTreeModel" y_M_put y_M_put : Cond) ∈ bg := bg_sel (List.mem_of_getElem? (i := 16) (by decide +kernel)) rfl
theorem sl_17 : (.selects "HashTreeModel" y_M_digestOf y_M_digestOf : Cond) ∈ bg := bg_sel (List.mem_of_getElem? (i := 17) (by decide +kernel)) rfl
theorem sl_18 : (.selects "HashTreeModel" y_M_block y_M_block : Cond) ∈ bg := bg_sel (List.mem_of_getElem? (i := 18) (by decide +kernel)) rfl
theorem sl_19 : (.selects "HashTreeModel" y_M_wordPair y_M_wordPair : Cond) ∈ bg := bg_sel (List.mem_of_getElem? (i := 19) (by decide +kernel)) rfl
theorem sl_20 : (.selects "HashTreeModel" y_M_step y_M_step : Cond) ∈ bg := bg_sel (List.mem_of_getElem? (i := 20) (by decide +kernel)) rfl
theorem sl_21 : (.selects "HashTreeModel" y_M_agree y_M_agree : Cond) ∈ bg := bg_sel (List.mem_of_getElem? (i := 21) (by decide +kernel)) rfl
theorem sl_22 : (.selects "HashTreeModel" y_M_fork y_M_fork : Cond) ∈ bg := bg_sel (List.mem_of_getElem? (i := 22) (by decide +kernel)) rfl
theorem i_X : ∀ w ∈ u_ws R_X F_X 9, w ∈ bg := by decide +kernel
theorem i_D : ∀ w ∈ u_ws R_D F_D 3, w ∈ bg := by decide +kernel
theorem i_L : ∀ w ∈ u_ws R_L F_L 5, w ∈ bg := by decide +kernel
theorem i_B : ∀ w ∈ u_ws R_B F_B 6, w ∈ bg := by decide +kernel
theorem i_M : ∀ w ∈ u_ws R_M F_M 22, w ∈ bg := by decide +kernel
end
section
theorem d_B_half_0 : decode b_B_half 0 = .ok (.iload_n 1, 1) := by decide +kernel
theorem d_B_half_1 : decode b_B_half 1 = .ok (.ifCond .eq 10, 3) := by decide +kernel
theorem d_B_half_4 : decode b_B_half 4 = .ok (.aload_n 0, 1) := by decide +kernel
theorem d_B_half_5 : decode b_B_half 5 = .ok (.getfield 13, 3) := by decide +kernel
theorem d_B_half_8 : decode b_B_half 8 = .ok (.goto 7, 3) := by decide +kernel
theorem d_B_half_11 : decode b_B_half 11 = .ok (.aload_n 0, 1) := by decide +kernel
theorem d_B_half_12 : decode b_B_half 12 = .ok (.getfield 7, 3) := by decide +kernel
theorem d_B_half_15 : decode b_B_half 15 = .ok (.areturn, 1) := by decide +kernel
theorem d_B_init_0 : decode b_B_init 0 = .ok (.aload_n 0, 1) := by decide +kernel
theorem d_B_init_1 : decode b_B_init 1 = .ok (.aload_n 1, 1) := by decide +kernel
theorem d_B_init_2 : decode b_B_init 2 = .ok (.iload_n 2, 1) := by decide +kernel
theorem d_B_init_3 : decode b_B_init 3 = .ok (.invokespecial 1, 3) := by decide +kernel
theorem d_B_init_6 : decode b_B_init 6 = .ok (.aload_n 0, 1) := by decide +kernel
theorem d_B_init_7 : decode b_B_init 7 = .ok (.aload_n 3, 1) := by decide +kernel
theorem d_B_init_8 : decode b_B_init 8 = .ok (.putfield 7, 3) := by decide +kernel
theorem d_B_init_11 : decode b_B_init 11 = .ok (.aload_n 0, 1) := by decide +kernel
theorem d_B_init_12 : decode b_B_init 12 = .ok (.aload 4, 2) := by decide +kernel
theorem d_B_init_14 : decode b_B_init 14 = .ok (.putfield 13, 3) := by decide +kernel
theorem d_B_init_17 : decode b_B_init 17 = .ok (.return_, 1) := by decide +kernel
theorem d_B_putHalf_0 : decode b_B_putHalf 0 = .ok (.iload_n 1, 1) := by decide +kernel
theorem d_B_putHalf_1 : decode b_B_putHalf 1 = .ok (.ifCond .eq 11, 3) := by decide +kernel
theorem d_B_putHalf_4 : decode b_B_putHalf 4 = .ok (.aload_n 0, 1) := by decide +kernel
theorem d_B_putHalf_5 : decode b_B_putHalf 5 = .ok (.aload_n 2, 1) := by decide +kernel
theorem d_B_putHalf_6 : decode b_B_putHalf 6 = .ok (.putfield 13, 3) := by decide +kernel
theorem d_B_putHalf_9 : decode b_B_putHalf 9 = .ok (.goto 8, 3) := by decide +kernel
theorem d_B_putHalf_12 : decode b_B_putHalf 12 = .ok (.aload_n 0, 1) := by decide +kernel
theorem d_B_putHalf_13 : decode b_B_putHalf 13 = .ok (.aload_n 2, 1) := by decide +kernel
theorem d_B_putHalf_14 : decode b_B_putHalf 14 = .ok (.putfield 7, 3) := by decide +kernel
theorem d_B_putHalf_17 : decode b_B_putHalf 17 = .ok (.return_, 1) := by decide +kernel
theorem d_B_staleHalf_0 : decode b_B_staleHalf 0 = .ok (.aload_n 0, 1) := by decide +kernel
theorem d_B_staleHalf_1 : decode b_B_staleHalf 1 = .ok (.getfield 7, 3) := by decide +kernel
theorem d_B_staleHalf_4 : decode b_B_staleHalf 4 = .ok (.getfield 16, 3) := by decide +kernel
theorem d_B_staleHalf_7 : decode b_B_staleHalf 7 = .ok (.ifCond .ne 8, 3) := by decide +kernel
theorem d_B_staleHalf_10 : decode b_B_staleHalf 10 = .ok (.aload_n 0, 1) := by decide +kernel
theorem d_B_staleHalf_11 : decode b_B_staleHalf 11 = .ok (.getfield 7, 3) := by decide +kernel
theorem d_B_staleHalf_14 : decode b_B_staleHalf 14 = .ok (.areturn, 1) := by decide +kernel
theorem d_B_staleHalf_15 : decode b_B_staleHalf 15 = .ok (.aload_n 0, 1) := by decide +kernel
theorem d_B_staleHalf_16 : decode b_B_staleHalf 16 = .ok (.getfield 13, 3) := by decide +kernel
theorem d_B_staleHalf_19 : decode b_B_staleHalf 19 = .ok (.getfield 16, 3) := by decide +kernel
theorem d_B_staleHalf_22 : decode b_B_staleHalf 22 = .ok (.ifCond .eq 7, 3) := by decide +kernel
theorem d_B_staleHalf_25 : decode b_B_staleHalf 25 = .ok (.aconst_null, 1) := by decide +kernel
theorem d_B_staleHalf_26 : decode b_B_staleHalf 26 = .ok (.goto 7, 3) := by decide +kernel
theorem d_B_staleHalf_29 : decode b_B_staleHalf 29 = .ok (.aload_n 0, 1) := by decide +kernel
theorem d_B_staleHalf_30 : decode b_B_staleHalf 30 = .ok (.getfield 13, 3) := by decide +kernel
theorem d_B_staleHalf_33 : decode b_B_staleHalf 33 = .ok (.areturn, 1) := by decide +kernel
end
section
theorem d_D_init_0 : decode b_D_init 0 = .ok (.aload_n 0, 1) := by decide +kernel
theorem d_D_init_1 : decode b_D_init 1 = .ok (.invokespecial 3, 3) := by decide +kernel
theorem d_D_init_4 : decode b_D_init 4 = .ok (.aload_n 0, 1) := by decide +kernel
theorem d_D_init_5 : decode b_D_init 5 = .ok (.bipush 8, 2) := by decide +kernel
theorem d_D_init_7 : decode b_D_init 7 = .ok (.newarray .int, 2) := by decide +kernel
theorem d_D_init_9 : decode b_D_init 9 = .ok (.putfield 11, 3) := by decide +kernel
theorem d_D_init_12 : decode b_D_init 12 = .ok (.aload_n 0, 1) := by decide +kernel
theorem d_D_init_13 : decode b_D_init 13 = .ok (.bipush 64, 2) := by decide +kernel
theorem d_D_init_15 : decode b_D_init 15 = .ok (.newarray .int, 2) := by decide +kernel
theorem d_D_init_17 : decode b_D_init 17 = .ok (.putfield 15, 3) := by decide +kernel
theorem d_D_init_20 : decode b_D_init 20 = .ok (.aload_n 0, 1) := by decide +kernel
theorem d_D_init_21 : decode b_D_init 21 = .ok (.iconst 0, 1) := by decide +kernel
theorem d_D_init_22 : decode b_D_init 22 = .ok (.putfield 18, 3) := by decide +kernel
theorem d_D_init_25 : decode b_D_init 25 = .ok (.return_, 1) := by decide +kernel
theorem d_D_join_0 : decode b_D_join 0 = .ok (.aload_n 0, 1) := by decide +kernel
theorem d_D_join_1 : decode b_D_join 1 = .ok (.invokevirtual 45, 3) := by decide +kernel
theorem d_D_join_4 : decode b_D_join 4 = .ok (.aload_n 0, 1) := by decide +kernel
theorem d_D_join_5 : decode b_D_join 5 = .ok (.iload_n 1, 1) := by decide +kernel
theorem d_D_join_6 : decode b_D_join 6 = .ok (.invokevirtual 37, 3) := by decide +kernel
theorem d_D_join_9 : decode b_D_join 9 = .ok (.iconst 0, 1) := by decide +kernel
theorem d_D_join_10 : decode b_D_join 10 = .ok (.istore 5, 2) := by decide +kernel
theorem d_D_join_12 : decode b_D_join 12 = .ok (.iload 5, 2) := by decide +kernel
theorem d_D_join_14 : decode b_D_join 14 = .ok (.iconst 4, 1) := by decide +kernel
theorem d_D_join_15 : decode b_D_join 15 = .ok (.if_icmp .ge 19, 3) := by decide +kernel
theorem d_D_join_18 : decode b_D_join 18 = .ok (.aload_n 0, 1) := by decide +kernel
theorem d_D_join_19 : decode b_D_join 19 = .ok (.aload_n 2, 1) := by decide +kernel
theorem d_D_join_20 : decode b_D_join 20 = .ok (.iload 5, 2) := by decide +kernel
theorem d_D_join_22 : decode b_D_join 22 = .ok (.laload, 1) := by decide +kernel
theorem d_D_join_23 : decode b_D_join 23 = .ok (.bipush 8, 2) := by decide +kernel
theorem d_D_join_25 : decode b_D_join 25 = .ok (.invokevirtual 48, 3) := by decide +kernel
theorem d_D_join_28 : decode b_D_join 28 = .ok (.iinc 5 1, 3) := by decide +kernel
theorem d_D_join_31 : decode b_D_join 31 = .ok (.goto (-19), 3) := by decide +kernel
theorem d_D_join_34 : decode b_D_join 34 = .ok (.iconst 0, 1) := by decide +kernel
theorem d_D_join_35 : decode b_D_join 35 = .ok (.istore 5, 2) := by decide +kernel
theorem d_D_join_37 : decode b_D_join 37 = .ok (.iload 5, 2) := by decide +kernel
theorem d_D_join_39 : decode b_D_join 39 = .ok (.iconst 4, 1) := by decide +kernel
theorem d_D_join_40 : decode b_D_join 40 = .ok (.if_icmp .ge 19, 3) := by decide +kernel
theorem d_D_join_43 : decode b_D_join 43 = .ok (.aload_n 0, 1) := by decide +kernel
theorem d_D_join_44 : decode b_D_join 44 = .ok (.aload_n 3, 1) := by decide +kernel
theorem d_D_join_45 : decode b_D_join 45 = .ok (.iload 5, 2) := by decide +kernel
theorem d_D_join_47 : decode b_D_join 47 = .ok (.laload, 1) := by decide +kernel
theorem d_D_join_48 : decode b_D_join 48 = .ok (.bipush 8, 2) := by decide +kernel
theorem d_D_join_50 : decode b_D_join 50 = .ok (.invokevirtual 48, 3) := by decide +kernel
theorem d_D_join_53 : decode b_D_join 53 = .ok (.iinc 5 1, 3) := by decide +kernel
theorem d_D_join_56 : decode b_D_join 56 = .ok (.goto (-19), 3) := by decide +kernel
theorem d_D_join_59 : decode b_D_join 59 = .ok (.aload_n 0, 1) := by decide +kernel
theorem d_D_join_60 : decode b_D_join 60 = .ok (.invokevirtual 52, 3) := by decide +kernel
theorem d_D_join_63 : decode b_D_join 63 = .ok (.iconst 0, 1) := by decide +kernel
theorem d_D_join_64 : decode b_D_join 64 = .ok (.istore 5, 2) := by decide +kernel
theorem d_D_join_66 : decode b_D_join 66 = .ok (.iload 5, 2) := by decide +kernel
theorem d_D_join_68 : decode b_D_join 68 = .ok (.iconst 4, 1) := by decide +kernel
theorem d_D_join_69 : decode b_D_join 69 = .ok (.if_icmp .ge 20, 3) := by decide +kernel
theorem d_D_join_72 : decode b_D_join 72 = .ok (.aload 4, 2) := by decide +kernel
theorem d_D_join_74 : decode b_D_join 74 = .ok (.iload 5, 2) := by decide +kernel
theorem d_D_join_76 : decode b_D_join 76 = .ok (.aload_n 0, 1) := by decide +kernel
theorem d_D_join_77 : decode b_D_join 77 = .ok (.iload 5, 2) := by decide +kernel
theorem d_D_join_79 : decode b_D_join 79 = .ok (.invokevirtual 55, 3) := by decide +kernel
theorem d_D_join_82 : decode b_D_join 82 = .ok (.lastore, 1) := by decide +kernel
theorem d_D_join_83 : decode b_D_join 83 = .ok (.iinc 5 1, 3) := by decide +kernel
theorem d_D_join_86 : decode b_D_join 86 = .ok (.goto (-20), 3) := by decide +kernel
theorem d_D_join_89 : decode b_D_join 89 = .ok (.return_, 1) := by decide +kernel
theorem d_D_begin_0 : decode b_D_begin 0 = .ok (.getstatic 22, 3) := by decide +kernel
theorem d_D_begin_3 : decode b_D_begin 3 = .ok (.iconst 0, 1) := by decide +kernel
theorem d_D_begin_4 : decode b_D_begin 4 = .ok (.aload_n 0, 1) := by decide +kernel
theorem d_D_begin_5 : decode b_D_begin 5 = .ok (.getfield 11, 3) := by decide +kernel
theorem d_D_begin_8 : decode b_D_begin 8 = .ok (.iconst 0, 1) := by decide +kernel
theorem d_D_begin_9 : decode b_D_begin 9 = .ok (.bipush 8, 2) := by decide +kernel
theorem d_D_begin_11 : decode b_D_begin 11 = .ok (.invokestatic 25, 3) := by decide +kernel
theorem d_D_begin_14 : decode b_D_begin 14 = .ok (.aload_n 0, 1) := by decide +kernel
theorem d_D_begin_15 : decode b_D_begin 15 = .ok (.iconst 0, 1) := by decide +kernel
theorem d_D_begin_16 : decode b_D_begin 16 = .ok (.putfield 18, 3) := by decide +kernel
theorem d_D_begin_19 : decode b_D_begin 19 = .ok (.return_, 1) := by decide +kernel
theorem d_D_take_0 : decode b_D_take 0 = .ok (.aload_n 0, 1) := by decide +kernel
theorem d_D_take_1 : decode b_D_take 1 = .ok (.getfield 18, 3) := by decide +kernel
theorem d_D_take_4 : decode b_D_take 4 = .ok (.bipush 63, 2) := by decide +kernel
theorem d_D_take_6 : decode b_D_take 6 = .ok (.iand, 1) := by decide +kernel
theorem d_D_take_7 : decode b_D_take 7 = .ok (.iconst 2, 1) := by decide +kernel
theorem d_D_take_8 : decode b_D_take 8 = .ok (.ishr, 1) := by decide +kernel
theorem d_D_take_9 : decode b_D_take 9 = .ok (.istore_n 2, 1) := by decide +kernel
theorem d_D_take_10 : decode b_D_take 10 = .ok (.aload_n 0, 1) := by decide +kernel
theorem d_D_take_11 : decode b_D_take 11 = .ok (.getfield 15, 3) := by decide +kernel
theorem d_D_take_14 : decode b_D_take 14 = .ok (.iload_n 2, 1) := by decide +kernel
theorem d_D_take_15 : decode b_D_take 15 = .ok (.aload_n 0, 1) := by decide +kernel
theorem d_D_take_16 : decode b_D_take 16 = .ok (.getfield 15, 3) := by decide +kernel
theorem d_D_take_19 : decode b_D_take 19 = .ok (.iload_n 2, 1) := by decide +kernel
theorem d_D_take_20 : decode b_D_take 20 = .ok (.iaload, 1) := by decide +kernel
theorem d_D_take_21 : decode b_D_take 21 = .ok (.bipush 8, 2) := by decide +kernel
theorem d_D_take_23 : decode b_D_take 23 = .ok (.ishl, 1) := by decide +kernel
theorem d_D_take_24 : decode b_D_take 24 = .ok (.iload_n 1, 1) := by decide +kernel
theorem d_D_take_25 : decode b_D_take 25 = .ok (.sipush 255, 3) := by decide +kernel
theorem d_D_take_28 : decode b_D_take 28 = .ok (.iand, 1) := by decide +kernel
theorem d_D_take_29 : decode b_D_take 29 = .ok (.ior, 1) := by decide +kernel
theorem d_D_take_30 : decode b_D_take 30 = .ok (.iastore, 1) := by decide +kernel
theorem d_D_take_31 : decode b_D_take 31 = .ok (.aload_n 0, 1) := by decide +kernel
theorem d_D_take_32 : decode b_D_take 32 = .ok (.dup, 1) := by decide +kernel
theorem d_D_take_33 : decode b_D_take 33 = .ok (.getfield 18, 3) := by decide +kernel
theorem d_D_take_36 : decode b_D_take 36 = .ok (.iconst 1, 1) := by decide +kernel
theorem d_D_take_37 : decode b_D_take 37 = .ok (.iadd, 1) := by decide +kernel
theorem d_D_take_38 : decode b_D_take 38 = .ok (.putfield 18, 3) := by decide +kernel
theorem d_D_take_41 : decode b_D_take 41 = .ok (.aload_n 0, 1) := by decide +kernel
theorem d_D_take_42 : decode b_D_take 42 = .ok (.getfield 18, 3) := by decide +kernel
theorem d_D_take_45 : decode b_D_take 45 = .ok (.bipush 63, 2) := by decide +kernel
theorem d_D_take_47 : decode b_D_take 47 = .ok (.iand, 1) := by decide +kernel
theorem d_D_take_48 : decode b_D_take 48 = .ok (.ifCond .ne 11, 3) := by decide +kernel
theorem d_D_take_51 : decode b_D_take 51 = .ok (.aload_n 0, 1) := by decide +kernel
theorem d_D_take_52 : decode b_D_take 52 = .ok (.invokevirtual 31, 3) := by decide +kernel
theorem d_D_take_55 : decode b_D_take 55 = .ok (.aload_n 0, 1) := by decide +kernel
theorem d_D_take_56 : decode b_D_take 56 = .ok (.invokevirtual 34, 3) := by decide +kernel
theorem d_D_take_59 : decode b_D_take 59 = .ok (.return_, 1) := by decide +kernel
theorem d_D_spread_0 : decode b_D_spread 0 = .ok (.bipush 16, 2) := by decide +kernel
theorem d_D_spread_2 : decode b_D_spread 2 = .ok (.istore_n 1, 1) := by decide +kernel
theorem d_D_spread_3 : decode b_D_spread 3 = .ok (.iload_n 1, 1) := by decide +kernel
theorem d_D_spread_4 : decode b_D_spread 4 = .ok (.bipush 64, 2) := by decide +kernel
theorem d_D_spread_6 : decode b_D_spread 6 = .ok (.if_icmp .ge 98, 3) := by decide +kernel
theorem d_D_spread_9 : decode b_D_spread 9 = .ok (.aload_n 0, 1) := by decide +kernel
theorem d_D_spread_10 : decode b_D_spread 10 = .ok (.getfield 15, 3) := by decide +kernel
theorem d_D_spread_13 : decode b_D_spread 13 = .ok (.iload_n 1, 1) := by decide +kernel
theorem d_D_spread_14 : decode b_D_spread 14 = .ok (.bipush 15, 2) := by decide +kernel
theorem d_D_spread_16 : decode b_D_spread 16 = .ok (.isub, 1) := by decide +kernel
theorem d_D_spread_17 : decode b_D_spread 17 = .ok (.iaload, 1) := by decide +kernel
theorem d_D_spread_18 : decode b_D_spread 18 = .ok (.istore_n 2, 1) := by decide +kernel
theorem d_D_spread_19 : decode b_D_spread 19 = .ok (.aload_n 0, 1) := by decide +kernel
theorem d_D_spread_20 : decode b_D_spread 20 = .ok (.getfield 15, 3) := by decide +kernel
theorem d_D_spread_23 : decode b_D_spread 23 = .ok (.iload_n 1, 1) := by decide +kernel
theorem d_D_spread_24 : decode b_D_spread 24 = .ok (.iconst 2, 1) := by decide +kernel
theorem d_D_spread_25 : decode b_D_spread 25 = .ok (.isub, 1) := by decide +kernel
theorem d_D_spread_26 : decode b_D_spread 26 = .ok (.iaload, 1) := by decide +kernel
theorem d_D_spread_27 : decode b_D_spread 27 = .ok (.istore_n 3, 1) := by decide +kernel
theorem d_D_spread_28 : decode b_D_spread 28 = .ok (.iload_n 2, 1) := by decide +kernel
theorem d_D_spread_29 : decode b_D_spread 29 = .ok (.bipush 7, 2) := by decide +kernel
theorem d_D_spread_31 : decode b_D_spread 31 = .ok (.invokestatic 59, 3) := by decide +kernel
theorem d_D_spread_34 : decode b_D_spread 34 = .ok (.iload_n 2, 1) := by decide +kernel
theorem d_D_spread_35 : decode b_D_spread 35 = .ok (.bipush 18, 2) := by decide +kernel
theorem d_D_spread_37 : decode b_D_spread 37 = .ok (.invokestatic 59, 3) := by decide +kernel
theorem d_D_spread_40 : decode b_D_spread 40 = .ok (.ixor, 1) := by decide +kernel
theorem d_D_spread_41 : decode b_D_spread 41 = .ok (.iload_n 2, 1) := by decide +kernel
theorem d_D_spread_42 : decode b_D_spread 42 = .ok (.iconst 3, 1) := by decide +kernel
theorem d_D_spread_43 : decode b_D_spread 43 = .ok (.iushr, 1) := by decide +kernel
theorem d_D_spread_44 : decode b_D_spread 44 = .ok (.ixor, 1) := by decide +kernel
theorem d_D_spread_45 : decode b_D_spread 45 = .ok (.istore 4, 2) := by decide +kernel
theorem d_D_spread_47 : decode b_D_spread 47 = .ok (.iload_n 3, 1) := by decide +kernel
theorem d_D_spread_48 : decode b_D_spread 48 = .ok (.bipush 17, 2) := by decide +kernel
theorem d_D_spread_50 : decode b_D_spread 50 = .ok (.invokestatic 59, 3) := by decide +kernel
theorem d_D_spread_53 : decode b_D_spread 53 = .ok (.iload_n 3, 1) := by decide +kernel
theorem d_D_spread_54 : decode b_D_spread 54 = .ok (.bipush 19, 2) := by decide +kernel
theorem d_D_spread_56 : decode b_D_spread 56 = .ok (.invokestatic 59, 3) := by decide +kernel
theorem d_D_spread_59 : decode b_D_spread 59 = .ok (.ixor, 1) := by decide +kernel
theorem d_D_spread_60 : decode b_D_spread 60 = .ok (.iload_n 3, 1) := by decide +kernel
theorem d_D_spread_61 : decode b_D_spread 61 = .ok (.bipush 10, 2) := by decide +kernel
theorem d_D_spread_63 : decode b_D_spread 63 = .ok (.iushr, 1) := by decide +kernel
theorem d_D_spread_64 : decode b_D_spread 64 = .ok (.ixor, 1) := by decide +kernel
theorem d_D_spread_65 : decode b_D_spread 65 = .ok (.istore 5, 2) := by decide +kernel
theorem d_D_spread_67 : decode b_D_spread 67 = .ok (.aload_n 0, 1) := by decide +kernel
theorem d_D_spread_68 : decode b_D_spread 68 = .ok (.getfield 15, 3) := by decide +kernel
theorem d_D_spread_71 : decode b_D_spread 71 = .ok (.iload_n 1, 1) := by decide +kernel
theorem d_D_spread_72 : decode b_D_spread 72 = .ok (.aload_n 0, 1) := by decide +kernel
theorem d_D_spread_73 : decode b_D_spread 73 = .ok (.getfield 15, 3) := by decide +kernel
theorem d_D_spread_76 : decode b_D_spread 76 = .ok (.iload_n 1, 1) := by decide +kernel
theorem d_D_spread_77 : decode b_D_spread 77 = .ok (.bipush 16, 2) := by decide +kernel
theorem d_D_spread_79 : decode b_D_spread 79 = .ok (.isub, 1) := by decide +kernel
theorem d_D_spread_80 : decode b_D_spread 80 = .ok (.iaload, 1) := by decide +kernel
theorem d_D_spread_81 : decode b_D_spread 81 = .ok (.iload 4, 2) := by decide +kernel
theorem d_D_spread_83 : decode b_D_spread 83 = .ok (.iadd, 1) := by decide +kernel
theorem d_D_spread_84 : decode b_D_spread 84 = .ok (.aload_n 0, 1) := by decide +kernel
theorem d_D_spread_85 : decode b_D_spread 85 = .ok (.getfield 15, 3) := by decide +kernel
theorem d_D_spread_88 : decode b_D_spread 88 = .ok (.iload_n 1, 1) := by decide +kernel
theorem d_D_spread_89 : decode b_D_spread 89 = .ok (.bipush 7, 2) := by decide +kernel
theorem d_D_spread_91 : decode b_D_spread 91 = .ok (.isub, 1) := by decide +kernel
theorem d_D_spread_92 : decode b_D_spread 92 = .ok (.iaload, 1) := by decide +kernel
theorem d_D_spread_93 : decode b_D_spread 93 = .ok (.iadd, 1) := by decide +kernel
theorem d_D_spread_94 : decode b_D_spread 94 = .ok (.iload 5, 2) := by decide +kernel
theorem d_D_spread_96 : decode b_D_spread 96 = .ok (.iadd, 1) := by decide +kernel
theorem d_D_spread_97 : decode b_D_spread 97 = .ok (.iastore, 1) := by decide +kernel
theorem d_D_spread_98 : decode b_D_spread 98 = .ok (.iinc 1 1, 3) := by decide +kernel
theorem d_D_spread_101 : decode b_D_spread 101 = .ok (.goto (-98), 3) := by decide +kernel
theorem d_D_spread_104 : decode b_D_spread 104 = .ok (.return_, 1) := by decide +kernel
theorem d_D_takeLowest_0 : decode b_D_takeLowest 0 = .ok (.iload_n 3, 1) := by decide +kernel
theorem d_D_takeLowest_1 : decode b_D_takeLowest 1 = .ok (.iconst 1, 1) := by decide +kernel
theorem d_D_takeLowest_2 : decode b_D_takeLowest 2 = .ok (.isub, 1) := by decide +kernel
theorem d_D_takeLowest_3 : decode b_D_takeLowest 3 = .ok (.istore 4, 2) := by decide +kernel
theorem d_D_takeLowest_5 : decode b_D_takeLowest 5 = .ok (.iload 4, 2) := by decide +kernel
theorem d_D_takeLowest_7 : decode b_D_takeLowest 7 = .ok (.ifCond .lt 21, 3) := by decide +kernel
theorem d_D_takeLowest_10 : decode b_D_takeLowest 10 = .ok (.aload_n 0, 1) := by decide +kernel
theorem d_D_takeLowest_11 : decode b_D_takeLowest 11 = .ok (.lload_n 1, 1) := by decide +kernel
theorem d_D_takeLowest_12 : decode b_D_takeLowest 12 = .ok (.bipush 8, 2) := by decide +kernel
theorem d_D_takeLowest_14 : decode b_D_takeLowest 14 = .ok (.iload 4, 2) := by decide +kernel
theorem d_D_takeLowest_16 : decode b_D_takeLowest 16 = .ok (.imul, 1) := by decide +kernel
theorem d_D_takeLowest_17 : decode b_D_takeLowest 17 = .ok (.lushr, 1) := by decide +kernel
theorem d_D_takeLowest_18 : decode b_D_takeLowest 18 = .ok (.l2i, 1) := by decide +kernel
theorem d_D_takeLowest_19 : decode b_D_takeLowest 19 = .ok (.invokevirtual 37, 3) := by decide +kernel
theorem d_D_takeLowest_22 : decode b_D_takeLowest 22 = .ok (.iinc 4 (-1), 3) := by decide +kernel
theorem d_D_takeLowest_25 : decode b_D_takeLowest 25 = .ok (.goto (-20), 3) := by decide +kernel
theorem d_D_takeLowest_28 : decode b_D_takeLowest 28 = .ok (.return_, 1) := by decide +kernel
theorem d_D_finish_0 : decode b_D_finish 0 = .ok (.ldc2_w 41, 3) := by decide +kernel
theorem d_D_finish_3 : decode b_D_finish 3 = .ok (.aload_n 0, 1) := by decide +kernel
theorem d_D_finish_4 : decode b_D_finish 4 = .ok (.getfield 18, 3) := by decide +kernel
theorem d_D_finish_7 : decode b_D_finish 7 = .ok (.i2l, 1) := by decide +kernel
theorem d_D_finish_8 : decode b_D_finish 8 = .ok (.lmul, 1) := by decide +kernel
theorem d_D_finish_9 : decode b_D_finish 9 = .ok (.lstore_n 1, 1) := by decide +kernel
theorem d_D_finish_10 : decode b_D_finish 10 = .ok (.aload_n 0, 1) := by decide +kernel
theorem d_D_finish_11 : decode b_D_finish 11 = .ok (.sipush 128, 3) := by decide +kernel
theorem d_D_finish_14 : decode b_D_finish 14 = .ok (.invokevirtual 37, 3) := by decide +kernel
theorem d_D_finish_17 : decode b_D_finish 17 = .ok (.bipush 56, 2) := by decide +kernel
theorem d_D_finish_19 : decode b_D_finish 19 = .ok (.aload_n 0, 1) := by decide +kernel
theorem d_D_finish_20 : decode b_D_finish 20 = .ok (.getfield 18, 3) := by decide +kernel
theorem d_D_finish_23 : decode b_D_finish 23 = .ok (.isub, 1) := by decide +kernel
theorem d_D_finish_24 : decode b_D_finish 24 = .ok (.bipush 63, 2) := by decide +kernel
theorem d_D_finish_26 : decode b_D_finish 26 = .ok (.iand, 1) := by decide +kernel
theorem d_D_finish_27 : decode b_D_finish 27 = .ok (.istore_n 3, 1) := by decide +kernel
theorem d_D_finish_28 : decode b_D_finish 28 = .ok (.iconst 0, 1) := by decide +kernel
theorem d_D_finish_29 : decode b_D_finish 29 = .ok (.istore 4, 2) := by decide +kernel
theorem d_D_finish_31 : decode b_D_finish 31 = .ok (.iload 4, 2) := by decide +kernel
theorem d_D_finish_33 : decode b_D_finish 33 = .ok (.iload_n 3, 1) := by decide +kernel
theorem d_D_finish_34 : decode b_D_finish 34 = .ok (.if_icmp .ge 14, 3) := by decide +kernel
theorem d_D_finish_37 : decode b_D_finish 37 = .ok (.aload_n 0, 1) := by decide +kernel
theorem d_D_finish_38 : decode b_D_finish 38 = .ok (.iconst 0, 1) := by decide +kernel
theorem d_D_finish_39 : decode b_D_finish 39 = .ok (.invokevirtual 37, 3) := by decide +kernel
theorem d_D_finish_42 : decode b_D_finish 42 = .ok (.iinc 4 1, 3) := by decide +kernel
theorem d_D_finish_45 : decode b_D_finish 45 = .ok (.goto (-14), 3) := by decide +kernel
theorem d_D_finish_48 : decode b_D_finish 48 = .ok (.bipush 56, 2) := by decide +kernel
theorem d_D_finish_50 : decode b_D_finish 50 = .ok (.istore 4, 2) := by decide +kernel
theorem d_D_finish_52 : decode b_D_finish 52 = .ok (.iload 4, 2) := by decide +kernel
theorem d_D_finish_54 : decode b_D_finish 54 = .ok (.ifCond .lt 18, 3) := by decide +kernel
theorem d_D_finish_57 : decode b_D_finish 57 = .ok (.aload_n 0, 1) := by decide +kernel
theorem d_D_finish_58 : decode b_D_finish 58 = .ok (.lload_n 1, 1) := by decide +kernel
theorem d_D_finish_59 : decode b_D_finish 59 = .ok (.iload 4, 2) := by decide +kernel
theorem d_D_finish_61 : decode b_D_finish 61 = .ok (.lushr, 1) := by decide +kernel
theorem d_D_finish_62 : decode b_D_finish 62 = .ok (.l2i, 1) := by decide +kernel
theorem d_D_finish_63 : decode b_D_finish 63 = .ok (.invokevirtual 37, 3) := by decide +kernel
theorem d_D_finish_66 : decode b_D_finish 66 = .ok (.iinc 4 (-8), 3) := by decide +kernel
theorem d_D_finish_69 : decode b_D_finish 69 = .ok (.goto (-17), 3) := by decide +kernel
theorem d_D_finish_72 : decode b_D_finish 72 = .ok (.return_, 1) := by decide +kernel
theorem d_D_number_0 : decode b_D_number 0 = .ok (.iconst 2, 1) := by decide +kernel
theorem d_D_number_1 : decode b_D_number 1 = .ok (.iload_n 1, 1) := by decide +kernel
theorem d_D_number_2 : decode b_D_number 2 = .ok (.imul, 1) := by decide +kernel
theorem d_D_number_3 : decode b_D_number 3 = .ok (.bipush 7, 2) := by decide +kernel
theorem d_D_number_5 : decode b_D_number 5 = .ok (.iand, 1) := by decide +kernel
theorem d_D_number_6 : decode b_D_number 6 = .ok (.istore_n 2, 1) := by decide +kernel
theorem d_D_number_7 : decode b_D_number 7 = .ok (.aload_n 0, 1) := by decide +kernel
theorem d_D_number_8 : decode b_D_number 8 = .ok (.getfield 11, 3) := by decide +kernel
theorem d_D_number_11 : decode b_D_number 11 = .ok (.iload_n 2, 1) := by decide +kernel
theorem d_D_number_12 : decode b_D_number 12 = .ok (.iaload, 1) := by decide +kernel
theorem d_D_number_13 : decode b_D_number 13 = .ok (.i2l, 1) := by decide +kernel
theorem d_D_number_14 : decode b_D_number 14 = .ok (.bipush 32, 2) := by decide +kernel
theorem d_D_number_16 : decode b_D_number 16 = .ok (.lshl, 1) := by decide +kernel
theorem d_D_number_17 : decode b_D_number 17 = .ok (.aload_n 0, 1) := by decide +kernel
theorem d_D_number_18 : decode b_D_number 18 = .ok (.getfield 11, 3) := by decide +kernel
theorem d_D_number_21 : decode b_D_number 21 = .ok (.iload_n 2, 1) := by decide +kernel
theorem d_D_number_22 : decode b_D_number 22 = .ok (.iconst 1, 1) := by decide +kernel
theorem d_D_number_23 : decode b_D_number 23 = .ok (.iadd, 1) := by decide +kernel
theorem d_D_number_24 : decode b_D_number 24 = .ok (.iaload, 1) := by decide +kernel
theorem d_D_number_25 : decode b_D_number 25 = .ok (.i2l, 1) := by decide +kernel
theorem d_D_number_26 : decode b_D_number 26 = .ok (.ldc2_w 43, 3) := by decide +kernel
theorem d_D_number_29 : decode b_D_number 29 = .ok (.land, 1) := by decide +kernel
theorem d_D_number_30 : decode b_D_number 30 = .ok (.lor, 1) := by decide +kernel
theorem d_D_number_31 : decode b_D_number 31 = .ok (.lreturn, 1) := by decide +kernel
end
section
theorem d_D_mix_0 : decode b_D_mix 0 = .ok (.aload_n 0, 1) := by decide +kernel
theorem d_D_mix_1 : decode b_D_mix 1 = .ok (.getfield 11, 3) := by decide +kernel
theorem d_D_mix_4 : decode b_D_mix 4 = .ok (.iconst 0, 1) := by decide +kernel
theorem d_D_mix_5 : decode b_D_mix 5 = .ok (.iaload, 1) := by decide +kernel
theorem d_D_mix_6 : decode b_D_mix 6 = .ok (.istore_n 1, 1) := by decide +kernel
theorem d_D_mix_7 : decode b_D_mix 7 = .ok (.aload_n 0, 1) := by decide +kernel
theorem d_D_mix_8 : decode b_D_mix 8 = .ok (.getfield 11, 3) := by decide +kernel
theorem d_D_mix_11 : decode b_D_mix 11 = .ok (.iconst 1, 1) := by decide +kernel
theorem d_D_mix_12 : decode b_D_mix 12 = .ok (.iaload, 1) := by decide +kernel
theorem d_D_mix_13 : decode b_D_mix 13 = .ok (.istore_n 2, 1) := by decide +kernel
theorem d_D_mix_14 : decode b_D_mix 14 = .ok (.aload_n 0, 1) := by decide +kernel
theorem d_D_mix_15 : decode b_D_mix 15 = .ok (.getfield 11, 3) := by decide +kernel
theorem d_D_mix_18 : decode b_D_mix 18 = .ok (.iconst 2, 1) := by decide +kernel
theorem d_D_mix_19 : decode b_D_mix 19 = .ok (.iaload, 1) := by decide +kernel
theorem d_D_mix_20 : decode b_D_mix 20 = .ok (.istore_n 3, 1) := by decide +kernel
theorem d_D_mix_21 : decode b_D_mix 21 = .ok (.aload_n 0, 1) := by decide +kernel
theorem d_D_mix_22 : decode b_D_mix 22 = .ok (.getfield 11, 3) := by decide +kernel
theorem d_D_mix_25 : decode b_D_mix 25 = .ok (.iconst 3, 1) := by decide +kernel
theorem d_D_mix_26 : decode b_D_mix 26 = .ok (.iaload, 1) := by decide +kernel
theorem d_D_mix_27 : decode b_D_mix 27 = .ok (.istore 4, 2) := by decide +kernel
theorem d_D_mix_29 : decode b_D_mix 29 = .ok (.aload_n 0, 1) := by decide +kernel
theorem d_D_mix_30 : decode b_D_mix 30 = .ok (.getfield 11, 3) := by decide +kernel
theorem d_D_mix_33 : decode b_D_mix 33 = .ok (.iconst 4, 1) := by decide +kernel
theorem d_D_mix_34 : decode b_D_mix 34 = .ok (.iaload, 1) := by decide +kernel
theorem d_D_mix_35 : decode b_D_mix 35 = .ok (.istore 5, 2) := by decide +kernel
theorem d_D_mix_37 : decode b_D_mix 37 = .ok (.aload_n 0, 1) := by decide +kernel
theorem d_D_mix_38 : decode b_D_mix 38 = .ok (.getfield 11, 3) := by decide +kernel
theorem d_D_mix_41 : decode b_D_mix 41 = .ok (.iconst 5, 1) := by decide +kernel
theorem d_D_mix_42 : decode b_D_mix 42 = .ok (.iaload, 1) := by decide +kernel
theorem d_D_mix_43 : decode b_D_mix 43 = .ok (.istore 6, 2) := by decide +kernel
theorem d_D_mix_45 : decode b_D_mix 45 = .ok (.aload_n 0, 1) := by decide +kernel
theorem d_D_mix_46 : decode b_D_mix 46 = .ok (.getfield 11, 3) := by decide +kernel
theorem d_D_mix_49 : decode b_D_mix 49 = .ok (.bipush 6, 2) := by decide +kernel
theorem d_D_mix_51 : decode b_D_mix 51 = .ok (.iaload, 1) := by decide +kernel
theorem d_D_mix_52 : decode b_D_mix 52 = .ok (.istore 7, 2) := by decide +kernel
theorem d_D_mix_54 : decode b_D_mix 54 = .ok (.aload_n 0, 1) := by decide +kernel
theorem d_D_mix_55 : decode b_D_mix 55 = .ok (.getfield 11, 3) := by decide +kernel
theorem d_D_mix_58 : decode b_D_mix 58 = .ok (.bipush 7, 2) := by decide +kernel
theorem d_D_mix_60 : decode b_D_mix 60 = .ok (.iaload, 1) := by decide +kernel
theorem d_D_mix_61 : decode b_D_mix 61 = .ok (.istore 8, 2) := by decide +kernel
theorem d_D_mix_63 : decode b_D_mix 63 = .ok (.iconst 0, 1) := by decide +kernel
theorem d_D_mix_64 : decode b_D_mix 64 = .ok (.istore 9, 2) := by decide +kernel
theorem d_D_mix_66 : decode b_D_mix 66 = .ok (.iload 9, 2) := by decide +kernel
theorem d_D_mix_68 : decode b_D_mix 68 = .ok (.bipush 64, 2) := by decide +kernel
theorem d_D_mix_70 : decode b_D_mix 70 = .ok (.if_icmp .ge 139, 3) := by decide +kernel
theorem d_D_mix_73 : decode b_D_mix 73 = .ok (.iload 5, 2) := by decide +kernel
theorem d_D_mix_75 : decode b_D_mix 75 = .ok (.bipush 6, 2) := by decide +kernel
theorem d_D_mix_77 : decode b_D_mix 77 = .ok (.invokestatic 59, 3) := by decide +kernel
theorem d_D_mix_80 : decode b_D_mix 80 = .ok (.iload 5, 2) := by decide +kernel
theorem d_D_mix_82 : decode b_D_mix 82 = .ok (.bipush 11, 2) := by decide +kernel
theorem d_D_mix_84 : decode b_D_mix 84 = .ok (.invokestatic 59, 3) := by decide +kernel
theorem d_D_mix_87 : decode b_D_mix 87 = .ok (.ixor, 1) := by decide +kernel
theorem d_D_mix_88 : decode b_D_mix 88 = .ok (.iload 5, 2) := by decide +kernel
theorem d_D_mix_90 : decode b_D_mix 90 = .ok (.bipush 25, 2) := by decide +kernel
theorem d_D_mix_92 : decode b_D_mix 92 = .ok (.invokestatic 59, 3) := by decide +kernel
theorem d_D_mix_95 : decode b_D_mix 95 = .ok (.ixor, 1) := by decide +kernel
theorem d_D_mix_96 : decode b_D_mix 96 = .ok (.istore 10, 2) := by decide +kernel
theorem d_D_mix_98 : decode b_D_mix 98 = .ok (.iload_n 1, 1) := by decide +kernel
theorem d_D_mix_99 : decode b_D_mix 99 = .ok (.iconst 2, 1) := by decide +kernel
theorem d_D_mix_100 : decode b_D_mix 100 = .ok (.invokestatic 59, 3) := by decide +kernel
theorem d_D_mix_103 : decode b_D_mix 103 = .ok (.iload_n 1, 1) := by decide +kernel
theorem d_D_mix_104 : decode b_D_mix 104 = .ok (.bipush 13, 2) := by decide +kernel
theorem d_D_mix_106 : decode b_D_mix 106 = .ok (.invokestatic 59, 3) := by decide +kernel
theorem d_D_mix_109 : decode b_D_mix 109 = .ok (.ixor, 1) := by decide +kernel
theorem d_D_mix_110 : decode b_D_mix 110 = .ok (.iload_n 1, 1) := by decide +kernel
theorem d_D_mix_111 : decode b_D_mix 111 = .ok (.bipush 22, 2) := by decide +kernel
theorem d_D_mix_113 : decode b_D_mix 113 = .ok (.invokestatic 59, 3) := by decide +kernel
theorem d_D_mix_116 : decode b_D_mix 116 = .ok (.ixor, 1) := by decide +kernel
theorem d_D_mix_117 : decode b_D_mix 117 = .ok (.istore 11, 2) := by decide +kernel
theorem d_D_mix_119 : decode b_D_mix 119 = .ok (.iload 8, 2) := by decide +kernel
theorem d_D_mix_121 : decode b_D_mix 121 = .ok (.iload 10, 2) := by decide +kernel
theorem d_D_mix_123 : decode b_D_mix 123 = .ok (.iadd, 1) := by decide +kernel
theorem d_D_mix_124 : decode b_D_mix 124 = .ok (.iload 5, 2) := by decide +kernel
theorem d_D_mix_126 : decode b_D_mix 126 = .ok (.iload 6, 2) := by decide +kernel
theorem d_D_mix_128 : decode b_D_mix 128 = .ok (.iand, 1) := by decide +kernel
theorem d_D_mix_129 : decode b_D_mix 129 = .ok (.iload 5, 2) := by decide +kernel
theorem d_D_mix_131 : decode b_D_mix 131 = .ok (.iconst (-1), 1) := by decide +kernel
theorem d_D_mix_132 : decode b_D_mix 132 = .ok (.ixor, 1) := by decide +kernel
theorem d_D_mix_133 : decode b_D_mix 133 = .ok (.iload 7, 2) := by decide +kernel
theorem d_D_mix_135 : decode b_D_mix 135 = .ok (.iand, 1) := by decide +kernel
theorem d_D_mix_136 : decode b_D_mix 136 = .ok (.ixor, 1) := by decide +kernel
theorem d_D_mix_137 : decode b_D_mix 137 = .ok (.iadd, 1) := by decide +kernel
theorem d_D_mix_138 : decode b_D_mix 138 = .ok (.getstatic 65, 3) := by decide +kernel
theorem d_D_mix_141 : decode b_D_mix 141 = .ok (.iload 9, 2) := by decide +kernel
theorem d_D_mix_143 : decode b_D_mix 143 = .ok (.iaload, 1) := by decide +kernel
theorem d_D_mix_144 : decode b_D_mix 144 = .ok (.iadd, 1) := by decide +kernel
theorem d_D_mix_145 : decode b_D_mix 145 = .ok (.aload_n 0, 1) := by decide +kernel
theorem d_D_mix_146 : decode b_D_mix 146 = .ok (.getfield 15, 3) := by decide +kernel
theorem d_D_mix_149 : decode b_D_mix 149 = .ok (.iload 9, 2) := by decide +kernel
theorem d_D_mix_151 : decode b_D_mix 151 = .ok (.iaload, 1) := by decide +kernel
theorem d_D_mix_152 : decode b_D_mix 152 = .ok (.iadd, 1) := by decide +kernel
theorem d_D_mix_153 : decode b_D_mix 153 = .ok (.istore 12, 2) := by decide +kernel
theorem d_D_mix_155 : decode b_D_mix 155 = .ok (.iload 11, 2) := by decide +kernel
theorem d_D_mix_157 : decode b_D_mix 157 = .ok (.iload_n 1, 1) := by decide +kernel
theorem d_D_mix_158 : decode b_D_mix 158 = .ok (.iload_n 2, 1) := by decide +kernel
theorem d_D_mix_159 : decode b_D_mix 159 = .ok (.iand, 1) := by decide +kernel
theorem d_D_mix_160 : decode b_D_mix 160 = .ok (.iload_n 1, 1) := by decide +kernel
theorem d_D_mix_161 : decode b_D_mix 161 = .ok (.iload_n 3, 1) := by decide +kernel
theorem d_D_mix_162 : decode b_D_mix 162 = .ok (.iand, 1) := by decide +kernel
theorem d_D_mix_163 : decode b_D_mix 163 = .ok (.ixor, 1) := by decide +kernel
theorem d_D_mix_164 : decode b_D_mix 164 = .ok (.iload_n 2, 1) := by decide +kernel
theorem d_D_mix_165 : decode b_D_mix 165 = .ok (.iload_n 3, 1) := by decide +kernel
theorem d_D_mix_166 : decode b_D_mix 166 = .ok (.iand, 1) := by decide +kernel
theorem d_D_mix_167 : decode b_D_mix 167 = .ok (.ixor, 1) := by decide +kernel
theorem d_D_mix_168 : decode b_D_mix 168 = .ok (.iadd, 1) := by decide +kernel
theorem d_D_mix_169 : decode b_D_mix 169 = .ok (.istore 13, 2) := by decide +kernel
theorem d_D_mix_171 : decode b_D_mix 171 = .ok (.iload 7, 2) := by decide +kernel
theorem d_D_mix_173 : decode b_D_mix 173 = .ok (.istore 8, 2) := by decide +kernel
theorem d_D_mix_175 : decode b_D_mix 175 = .ok (.iload 6, 2) := by decide +kernel
theorem d_D_mix_177 : decode b_D_mix 177 = .ok (.istore 7, 2) := by decide +kernel
theorem d_D_mix_179 : decode b_D_mix 179 = .ok (.iload 5, 2) := by decide +kernel
theorem d_D_mix_181 : decode b_D_mix 181 = .ok (.istore 6, 2) := by decide +kernel
theorem d_D_mix_183 : decode b_D_mix 183 = .ok (.iload 4, 2) := by decide +kernel
theorem d_D_mix_185 : decode b_D_mix 185 = .ok (.iload 12, 2) := by decide +kernel
theorem d_D_mix_187 : decode b_D_mix 187 = .ok (.iadd, 1) := by decide +kernel
theorem d_D_mix_188 : decode b_D_mix 188 = .ok (.istore 5, 2) := by decide +kernel
theorem d_D_mix_190 : decode b_D_mix 190 = .ok (.iload_n 3, 1) := by decide +kernel
theorem d_D_mix_191 : decode b_D_mix 191 = .ok (.istore 4, 2) := by decide +kernel
theorem d_D_mix_193 : decode b_D_mix 193 = .ok (.iload_n 2, 1) := by decide +kernel
theorem d_D_mix_194 : decode b_D_mix 194 = .ok (.istore_n 3, 1) := by decide +kernel
theorem d_D_mix_195 : decode b_D_mix 195 = .ok (.iload_n 1, 1) := by decide +kernel
theorem d_D_mix_196 : decode b_D_mix 196 = .ok (.istore_n 2, 1) := by decide +kernel
theorem d_D_mix_197 : decode b_D_mix 197 = .ok (.iload 12, 2) := by decide +kernel
theorem d_D_mix_199 : decode b_D_mix 199 = .ok (.iload 13, 2) := by decide +kernel
theorem d_D_mix_201 : decode b_D_mix 201 = .ok (.iadd, 1) := by decide +kernel
theorem d_D_mix_202 : decode b_D_mix 202 = .ok (.istore_n 1, 1) := by decide +kernel
theorem d_D_mix_203 : decode b_D_mix 203 = .ok (.iinc 9 1, 3) := by decide +kernel
theorem d_D_mix_206 : decode b_D_mix 206 = .ok (.goto (-140), 3) := by decide +kernel
theorem d_D_mix_209 : decode b_D_mix 209 = .ok (.aload_n 0, 1) := by decide +kernel
theorem d_D_mix_210 : decode b_D_mix 210 = .ok (.getfield 11, 3) := by decide +kernel
theorem d_D_mix_213 : decode b_D_mix 213 = .ok (.iconst 0, 1) := by decide +kernel
theorem d_D_mix_214 : decode b_D_mix 214 = .ok (.dup2, 1) := by decide +kernel
theorem d_D_mix_215 : decode b_D_mix 215 = .ok (.iaload, 1) := by decide +kernel
theorem d_D_mix_216 : decode b_D_mix 216 = .ok (.iload_n 1, 1) := by decide +kernel
theorem d_D_mix_217 : decode b_D_mix 217 = .ok (.iadd, 1) := by decide +kernel
theorem d_D_mix_218 : decode b_D_mix 218 = .ok (.iastore, 1) := by decide +kernel
theorem d_D_mix_219 : decode b_D_mix 219 = .ok (.aload_n 0, 1) := by decide +kernel
theorem d_D_mix_220 : decode b_D_mix 220 = .ok (.getfield 11, 3) := by decide +kernel
theorem d_D_mix_223 : decode b_D_mix 223 = .ok (.iconst 1, 1) := by decide +kernel
theorem d_D_mix_224 : decode b_D_mix 224 = .ok (.dup2, 1) := by decide +kernel
theorem d_D_mix_225 : decode b_D_mix 225 = .ok (.iaload, 1) := by decide +kernel
theorem d_D_mix_226 : decode b_D_mix 226 = .ok (.iload_n 2, 1) := by decide +kernel
theorem d_D_mix_227 : decode b_D_mix 227 = .ok (.iadd, 1) := by decide +kernel
theorem d_D_mix_228 : decode b_D_mix 228 = .ok (.iastore, 1) := by decide +kernel
theorem d_D_mix_229 : decode b_D_mix 229 = .ok (.aload_n 0, 1) := by decide +kernel
theorem d_D_mix_230 : decode b_D_mix 230 = .ok (.getfield 11, 3) := by decide +kernel
theorem d_D_mix_233 : decode b_D_mix 233 = .ok (.iconst 2, 1) := by decide +kernel
theorem d_D_mix_234 : decode b_D_mix 234 = .ok (.dup2, 1) := by decide +kernel
theorem d_D_mix_235 : decode b_D_mix 235 = .ok (.iaload, 1) := by decide +kernel
theorem d_D_mix_236 : decode b_D_mix 236 = .ok (.iload_n 3, 1) := by decide +kernel
theorem d_D_mix_237 : decode b_D_mix 237 = .ok (.iadd, 1) := by decide +kernel
theorem d_D_mix_238 : decode b_D_mix 238 = .ok (.iastore, 1) := by decide +kernel
theorem d_D_mix_239 : decode b_D_mix 239 = .ok (.aload_n 0, 1) := by decide +kernel
theorem d_D_mix_240 : decode b_D_mix 240 = .ok (.getfield 11, 3) := by decide +kernel
theorem d_D_mix_243 : decode b_D_mix 243 = .ok (.iconst 3, 1) := by decide +kernel
theorem d_D_mix_244 : decode b_D_mix 244 = .ok (.dup2, 1) := by decide +kernel
theorem d_D_mix_245 : decode b_D_mix 245 = .ok (.iaload, 1) := by decide +kernel
theorem d_D_mix_246 : decode b_D_mix 246 = .ok (.iload 4, 2) := by decide +kernel
theorem d_D_mix_248 : decode b_D_mix 248 = .ok (.iadd, 1) := by decide +kernel
theorem d_D_mix_249 : decode b_D_mix 249 = .ok (.iastore, 1) := by decide +kernel
theorem d_D_mix_250 : decode b_D_mix 250 = .ok (.aload_n 0, 1) := by decide +kernel
theorem d_D_mix_251 : decode b_D_mix 251 = .ok (.getfield 11, 3) := by decide +kernel
theorem d_D_mix_254 : decode b_D_mix 254 = .ok (.iconst 4, 1) := by decide +kernel
theorem d_D_mix_255 : decode b_D_mix 255 = .ok (.dup2, 1) := by decide +kernel
theorem d_D_mix_256 : decode b_D_mix 256 = .ok (.iaload, 1) := by decide +kernel
theorem d_D_mix_257 : decode b_D_mix 257 = .ok (.iload 5, 2) := by decide +kernel
theorem d_D_mix_259 : decode b_D_mix 259 = .ok (.iadd, 1) := by decide +kernel
theorem d_D_mix_260 : decode b_D_mix 260 = .ok (.iastore, 1) := by decide +kernel
theorem d_D_mix_261 : decode b_D_mix 261 = .ok (.aload_n 0, 1) := by decide +kernel
theorem d_D_mix_262 : decode b_D_mix 262 = .ok (.getfield 11, 3) := by decide +kernel
theorem d_D_mix_265 : decode b_D_mix 265 = .ok (.iconst 5, 1) := by decide +kernel
theorem d_D_mix_266 : decode b_D_mix 266 = .ok (.dup2, 1) := by decide +kernel
theorem d_D_mix_267 : decode b_D_mix 267 = .ok (.iaload, 1) := by decide +kernel
theorem d_D_mix_268 : decode b_D_mix 268 = .ok (.iload 6, 2) := by decide +kernel
theorem d_D_mix_270 : decode b_D_mix 270 = .ok (.iadd, 1) := by decide +kernel
theorem d_D_mix_271 : decode b_D_mix 271 = .ok (.iastore, 1) := by decide +kernel
theorem d_D_mix_272 : decode b_D_mix 272 = .ok (.aload_n 0, 1) := by decide +kernel
theorem d_D_mix_273 : decode b_D_mix 273 = .ok (.getfield 11, 3) := by decide +kernel
theorem d_D_mix_276 : decode b_D_mix 276 = .ok (.bipush 6, 2) := by decide +kernel
theorem d_D_mix_278 : decode b_D_mix 278 = .ok (.dup2, 1) := by decide +kernel
theorem d_D_mix_279 : decode b_D_mix 279 = .ok (.iaload, 1) := by decide +kernel
theorem d_D_mix_280 : decode b_D_mix 280 = .ok (.iload 7, 2) := by decide +kernel
theorem d_D_mix_282 : decode b_D_mix 282 = .ok (.iadd, 1) := by decide +kernel
theorem d_D_mix_283 : decode b_D_mix 283 = .ok (.iastore, 1) := by decide +kernel
theorem d_D_mix_284 : decode b_D_mix 284 = .ok (.aload_n 0, 1) := by decide +kernel
theorem d_D_mix_285 : decode b_D_mix 285 = .ok (.getfield 11, 3) := by decide +kernel
theorem d_D_mix_288 : decode b_D_mix 288 = .ok (.bipush 7, 2) := by decide +kernel
theorem d_D_mix_290 : decode b_D_mix 290 = .ok (.dup2, 1) := by decide +kernel
theorem d_D_mix_291 : decode b_D_mix 291 = .ok (.iaload, 1) := by decide +kernel
theorem d_D_mix_292 : decode b_D_mix 292 = .ok (.iload 8, 2) := by decide +kernel
theorem d_D_mix_294 : decode b_D_mix 294 = .ok (.iadd, 1) := by decide +kernel
theorem d_D_mix_295 : decode b_D_mix 295 = .ok (.iastore, 1) := by decide +kernel
theorem d_D_mix_296 : decode b_D_mix 296 = .ok (.return_, 1) := by decide +kernel
end
section
theorem d_JA_fill_0 : decode b_JA_fill 0 = .ok (.iconst 0, 1) := by decide +kernel
theorem d_JA_fill_1 : decode b_JA_fill 1 = .ok (.istore_n 3, 1) := by decide +kernel
theorem d_JA_fill_2 : decode b_JA_fill 2 = .ok (.aload_n 0, 1) := by decide +kernel
theorem d_JA_fill_3 : decode b_JA_fill 3 = .ok (.arraylength, 1) := by decide +kernel
theorem d_JA_fill_4 : decode b_JA_fill 4 = .ok (.istore 4, 2) := by decide +kernel
theorem d_JA_fill_6 : decode b_JA_fill 6 = .ok (.iload_n 3, 1) := by decide +kernel
theorem d_JA_fill_7 : decode b_JA_fill 7 = .ok (.iload 4, 2) := by decide +kernel
theorem d_JA_fill_9 : decode b_JA_fill 9 = .ok (.if_icmp .ge 13, 3) := by decide +kernel
theorem d_JA_fill_12 : decode b_JA_fill 12 = .ok (.aload_n 0, 1) := by decide +kernel
theorem d_JA_fill_13 : decode b_JA_fill 13 = .ok (.iload_n 3, 1) := by decide +kernel
theorem d_JA_fill_14 : decode b_JA_fill 14 = .ok (.lload_n 1, 1) := by decide +kernel
theorem d_JA_fill_15 : decode b_JA_fill 15 = .ok (.lastore, 1) := by decide +kernel
theorem d_JA_fill_16 : decode b_JA_fill 16 = .ok (.iinc 3 1, 3) := by decide +kernel
theorem d_JA_fill_19 : decode b_JA_fill 19 = .ok (.goto (-13), 3) := by decide +kernel
theorem d_JA_fill_22 : decode b_JA_fill 22 = .ok (.return_, 1) := by decide +kernel
end
section
theorem d_JI_numberOfLeadingZeros_0 : decode b_JI_numberOfLeadingZeros 0 = .ok (.iload_n 0, 1) := by decide +kernel
theorem d_JI_numberOfLeadingZeros_1 : decode b_JI_numberOfLeadingZeros 1 = .ok (.ifCond .gt 14, 3) := by decide +kernel
theorem d_JI_numberOfLeadingZeros_4 : decode b_JI_numberOfLeadingZeros 4 = .ok (.iload_n 0, 1) := by decide +kernel
theorem d_JI_numberOfLeadingZeros_5 : decode b_JI_numberOfLeadingZeros 5 = .ok (.ifCond .ne 8, 3) := by decide +kernel
theorem d_JI_numberOfLeadingZeros_8 : decode b_JI_numberOfLeadingZeros 8 = .ok (.bipush 32, 2) := by decide +kernel
theorem d_JI_numberOfLeadingZeros_10 : decode b_JI_numberOfLeadingZeros 10 = .ok (.goto 4, 3) := by decide +kernel
theorem d_JI_numberOfLeadingZeros_13 : decode b_JI_numberOfLeadingZeros 13 = .ok (.iconst 0, 1) := by decide +kernel
theorem d_JI_numberOfLeadingZeros_14 : decode b_JI_numberOfLeadingZeros 14 = .ok (.ireturn, 1) := by decide +kernel
theorem d_JI_numberOfLeadingZeros_15 : decode b_JI_numberOfLeadingZeros 15 = .ok (.bipush 31, 2) := by decide +kernel
theorem d_JI_numberOfLeadingZeros_17 : decode b_JI_numberOfLeadingZeros 17 = .ok (.istore_n 1, 1) := by decide +kernel
theorem d_JI_numberOfLeadingZeros_18 : decode b_JI_numberOfLeadingZeros 18 = .ok (.iload_n 0, 1) := by decide +kernel
theorem d_JI_numberOfLeadingZeros_19 : decode b_JI_numberOfLeadingZeros 19 = .ok (.ldc_w 264, 3) := by decide +kernel
theorem d_JI_numberOfLeadingZeros_22 : decode b_JI_numberOfLeadingZeros 22 = .ok (.if_icmp .lt 11, 3) := by decide +kernel
theorem d_JI_numberOfLeadingZeros_25 : decode b_JI_numberOfLeadingZeros 25 = .ok (.iinc 1 (-16), 3) := by decide +kernel
theorem d_JI_numberOfLeadingZeros_28 : decode b_JI_numberOfLeadingZeros 28 = .ok (.iload_n 0, 1) := by decide +kernel
theorem d_JI_numberOfLeadingZeros_29 : decode b_JI_numberOfLeadingZeros 29 = .ok (.bipush 16, 2) := by decide +kernel
theorem d_JI_numberOfLeadingZeros_31 : decode b_JI_numberOfLeadingZeros 31 = .ok (.iushr, 1) := by decide +kernel
theorem d_JI_numberOfLeadingZeros_32 : decode b_JI_numberOfLeadingZeros 32 = .ok (.istore_n 0, 1) := by decide +kernel
theorem d_JI_numberOfLeadingZeros_33 : decode b_JI_numberOfLeadingZeros 33 = .ok (.iload_n 0, 1) := by decide +kernel
theorem d_JI_numberOfLeadingZeros_34 : decode b_JI_numberOfLeadingZeros 34 = .ok (.sipush 256, 3) := by decide +kernel
theorem d_JI_numberOfLeadingZeros_37 : decode b_JI_numberOfLeadingZeros 37 = .ok (.if_icmp .lt 11, 3) := by decide +kernel
theorem d_JI_numberOfLeadingZeros_40 : decode b_JI_numberOfLeadingZeros 40 = .ok (.iinc 1 (-8), 3) := by decide +kernel
theorem d_JI_numberOfLeadingZeros_43 : decode b_JI_numberOfLeadingZeros 43 = .ok (.iload_n 0, 1) := by decide +kernel
theorem d_JI_numberOfLeadingZeros_44 : decode b_JI_numberOfLeadingZeros 44 = .ok (.bipush 8, 2) := by decide +kernel
theorem d_JI_numberOfLeadingZeros_46 : decode b_JI_numberOfLeadingZeros 46 = .ok (.iushr, 1) := by decide +kernel
theorem d_JI_numberOfLeadingZeros_47 : decode b_JI_numberOfLeadingZeros 47 = .ok (.istore_n 0, 1) := by decide +kernel
theorem d_JI_numberOfLeadingZeros_48 : decode b_JI_numberOfLeadingZeros 48 = .ok (.iload_n 0, 1) := by decide +kernel
theorem d_JI_numberOfLeadingZeros_49 : decode b_JI_numberOfLeadingZeros 49 = .ok (.bipush 16, 2) := by decide +kernel
theorem d_JI_numberOfLeadingZeros_51 : decode b_JI_numberOfLeadingZeros 51 = .ok (.if_icmp .lt 10, 3) := by decide +kernel
theorem d_JI_numberOfLeadingZeros_54 : decode b_JI_numberOfLeadingZeros 54 = .ok (.iinc 1 (-4), 3) := by decide +kernel
theorem d_JI_numberOfLeadingZeros_57 : decode b_JI_numberOfLeadingZeros 57 = .ok (.iload_n 0, 1) := by decide +kernel
theorem d_JI_numberOfLeadingZeros_58 : decode b_JI_numberOfLeadingZeros 58 = .ok (.iconst 4, 1) := by decide +kernel
theorem d_JI_numberOfLeadingZeros_59 : decode b_JI_numberOfLeadingZeros 59 = .ok (.iushr, 1) := by decide +kernel
theorem d_JI_numberOfLeadingZeros_60 : decode b_JI_numberOfLeadingZeros 60 = .ok (.istore_n 0, 1) := by decide +kernel
theorem d_JI_numberOfLeadingZeros_61 : decode b_JI_numberOfLeadingZeros 61 = .ok (.iload_n 0, 1) := by decide +kernel
theorem d_JI_numberOfLeadingZeros_62 : decode b_JI_numberOfLeadingZeros 62 = .ok (.iconst 4, 1) := by decide +kernel
theorem d_JI_numberOfLeadingZeros_63 : decode b_JI_numberOfLeadingZeros 63 = .ok (.if_icmp .lt 10, 3) := by decide +kernel
theorem d_JI_numberOfLeadingZeros_66 : decode b_JI_numberOfLeadingZeros 66 = .ok (.iinc 1 (-2), 3) := by decide +kernel
theorem d_JI_numberOfLeadingZeros_69 : decode b_JI_numberOfLeadingZeros 69 = .ok (.iload_n 0, 1) := by decide +kernel
theorem d_JI_numberOfLeadingZeros_70 : decode b_JI_numberOfLeadingZeros 70 = .ok (.iconst 2, 1) := by decide +kernel
theorem d_JI_numberOfLeadingZeros_71 : decode b_JI_numberOfLeadingZeros 71 = .ok (.iushr, 1) := by decide +kernel
theorem d_JI_numberOfLeadingZeros_72 : decode b_JI_numberOfLeadingZeros 72 = .ok (.istore_n 0, 1) := by decide +kernel
theorem d_JI_numberOfLeadingZeros_73 : decode b_JI_numberOfLeadingZeros 73 = .ok (.iload_n 1, 1) := by decide +kernel
theorem d_JI_numberOfLeadingZeros_74 : decode b_JI_numberOfLeadingZeros 74 = .ok (.iload_n 0, 1) := by decide +kernel
theorem d_JI_numberOfLeadingZeros_75 : decode b_JI_numberOfLeadingZeros 75 = .ok (.iconst 1, 1) := by decide +kernel
theorem d_JI_numberOfLeadingZeros_76 : decode b_JI_numberOfLeadingZeros 76 = .ok (.iushr, 1) := by decide +kernel
theorem d_JI_numberOfLeadingZeros_77 : decode b_JI_numberOfLeadingZeros 77 = .ok (.isub, 1) := by decide +kernel
theorem d_JI_numberOfLeadingZeros_78 : decode b_JI_numberOfLeadingZeros 78 = .ok (.ireturn, 1) := by decide +kernel
theorem d_JI_rotateRight_0 : decode b_JI_rotateRight 0 = .ok (.iload_n 0, 1) := by decide +kernel
theorem d_JI_rotateRight_1 : decode b_JI_rotateRight 1 = .ok (.iload_n 1, 1) := by decide +kernel
theorem d_JI_rotateRight_2 : decode b_JI_rotateRight 2 = .ok (.iushr, 1) := by decide +kernel
theorem d_JI_rotateRight_3 : decode b_JI_rotateRight 3 = .ok (.iload_n 0, 1) := by decide +kernel
theorem d_JI_rotateRight_4 : decode b_JI_rotateRight 4 = .ok (.iload_n 1, 1) := by decide +kernel
theorem d_JI_rotateRight_5 : decode b_JI_rotateRight 5 = .ok (.ineg, 1) := by decide +kernel
theorem d_JI_rotateRight_6 : decode b_JI_rotateRight 6 = .ok (.ishl, 1) := by decide +kernel
theorem d_JI_rotateRight_7 : decode b_JI_rotateRight 7 = .ok (.ior, 1) := by decide +kernel
theorem d_JI_rotateRight_8 : decode b_JI_rotateRight 8 = .ok (.ireturn, 1) := by decide +kernel
end
section
theorem d_JL_numberOfLeadingZeros_0 : decode b_JL_numberOfLeadingZeros 0 = .ok (.lload_n 0, 1) := by decide +kernel
theorem d_JL_numberOfLeadingZeros_1 : decode b_JL_numberOfLeadingZeros 1 = .ok (.bipush 32, 2) := by decide +kernel
theorem d_JL_numberOfLeadingZeros_3 : decode b_JL_numberOfLeadingZeros 3 = .ok (.lushr, 1) := by decide +kernel
theorem d_JL_numberOfLeadingZeros_4 : decode b_JL_numberOfLeadingZeros 4 = .ok (.l2i, 1) := by decide +kernel
theorem d_JL_numberOfLeadingZeros_5 : decode b_JL_numberOfLeadingZeros 5 = .ok (.istore_n 2, 1) := by decide +kernel
theorem d_JL_numberOfLeadingZeros_6 : decode b_JL_numberOfLeadingZeros 6 = .ok (.iload_n 2, 1) := by decide +kernel
theorem d_JL_numberOfLeadingZeros_7 : decode b_JL_numberOfLeadingZeros 7 = .ok (.ifCond .ne 14, 3) := by decide +kernel
theorem d_JL_numberOfLeadingZeros_10 : decode b_JL_numberOfLeadingZeros 10 = .ok (.bipush 32, 2) := by decide +kernel
theorem d_JL_numberOfLeadingZeros_12 : decode b_JL_numberOfLeadingZeros 12 = .ok (.lload_n 0, 1) := by decide +kernel
theorem d_JL_numberOfLeadingZeros_13 : decode b_JL_numberOfLeadingZeros 13 = .ok (.l2i, 1) := by decide +kernel
theorem d_JL_numberOfLeadingZeros_14 : decode b_JL_numberOfLeadingZeros 14 = .ok (.invokestatic 308, 3) := by decide +kernel
theorem d_JL_numberOfLeadingZeros_17 : decode b_JL_numberOfLeadingZeros 17 = .ok (.iadd, 1) := by decide +kernel
theorem d_JL_numberOfLeadingZeros_18 : decode b_JL_numberOfLeadingZeros 18 = .ok (.goto 7, 3) := by decide +kernel
theorem d_JL_numberOfLeadingZeros_21 : decode b_JL_numberOfLeadingZeros 21 = .ok (.iload_n 2, 1) := by decide +kernel
theorem d_JL_numberOfLeadingZeros_22 : decode b_JL_numberOfLeadingZeros 22 = .ok (.invokestatic 308, 3) := by decide +kernel
theorem d_JL_numberOfLeadingZeros_25 : decode b_JL_numberOfLeadingZeros 25 = .ok (.ireturn, 1) := by decide +kernel
end
section
theorem d_JM_floorMod_0 : decode b_JM_floorMod 0 = .ok (.lload_n 0, 1) := by decide +kernel
theorem d_JM_floorMod_1 : decode b_JM_floorMod 1 = .ok (.lload_n 2, 1) := by decide +kernel
theorem d_JM_floorMod_2 : decode b_JM_floorMod 2 = .ok (.lrem, 1) := by decide +kernel
theorem d_JM_floorMod_3 : decode b_JM_floorMod 3 = .ok (.lstore 4, 2) := by decide +kernel
theorem d_JM_floorMod_5 : decode b_JM_floorMod 5 = .ok (.lload_n 0, 1) := by decide +kernel
theorem d_JM_floorMod_6 : decode b_JM_floorMod 6 = .ok (.lload_n 2, 1) := by decide +kernel
theorem d_JM_floorMod_7 : decode b_JM_floorMod 7 = .ok (.lxor, 1) := by decide +kernel
theorem d_JM_floorMod_8 : decode b_JM_floorMod 8 = .ok (.lconst 0, 1) := by decide +kernel
theorem d_JM_floorMod_9 : decode b_JM_floorMod 9 = .ok (.lcmp, 1) := by decide +kernel
theorem d_JM_floorMod_10 : decode b_JM_floorMod 10 = .ok (.ifCond .ge 15, 3) := by decide +kernel
theorem d_JM_floorMod_13 : decode b_JM_floorMod 13 = .ok (.lload 4, 2) := by decide +kernel
theorem d_JM_floorMod_15 : decode b_JM_floorMod 15 = .ok (.lconst 0, 1) := by decide +kernel
theorem d_JM_floorMod_16 : decode b_JM_floorMod 16 = .ok (.lcmp, 1) := by decide +kernel
theorem d_JM_floorMod_17 : decode b_JM_floorMod 17 = .ok (.ifCond .eq 8, 3) := by decide +kernel
theorem d_JM_floorMod_20 : decode b_JM_floorMod 20 = .ok (.lload 4, 2) := by decide +kernel
theorem d_JM_floorMod_22 : decode b_JM_floorMod 22 = .ok (.lload_n 2, 1) := by decide +kernel
theorem d_JM_floorMod_23 : decode b_JM_floorMod 23 = .ok (.ladd, 1) := by decide +kernel
theorem d_JM_floorMod_24 : decode b_JM_floorMod 24 = .ok (.lreturn, 1) := by decide +kernel
theorem d_JM_floorMod_25 : decode b_JM_floorMod 25 = .ok (.lload 4, 2) := by decide +kernel
theorem d_JM_floorMod_27 : decode b_JM_floorMod 27 = .ok (.lreturn, 1) := by decide +kernel
end
section
theorem d_L_init_0 : decode b_L_init 0 = .ok (.aload_n 0, 1) := by decide +kernel
theorem d_L_init_1 : decode b_L_init 1 = .ok (.aload_n 1, 1) := by decide +kernel
theorem d_L_init_2 : decode b_L_init 2 = .ok (.sipush 256, 3) := by decide +kernel
theorem d_L_init_5 : decode b_L_init 5 = .ok (.invokespecial 3, 3) := by decide +kernel
theorem d_L_init_8 : decode b_L_init 8 = .ok (.aload_n 0, 1) := by decide +kernel
theorem d_L_init_9 : decode b_L_init 9 = .ok (.iconst 4, 1) := by decide +kernel
theorem d_L_init_10 : decode b_L_init 10 = .ok (.newarray .long, 2) := by decide +kernel
theorem d_L_init_12 : decode b_L_init 12 = .ok (.putfield 9, 3) := by decide +kernel
theorem d_L_init_15 : decode b_L_init 15 = .ok (.return_, 1) := by decide +kernel
end
section
theorem d_N_init_0 : decode b_N_init 0 = .ok (.aload_n 0, 1) := by decide +kernel
theorem d_N_init_1 : decode b_N_init 1 = .ok (.invokespecial 3, 3) := by decide +kernel
theorem d_N_init_4 : decode b_N_init 4 = .ok (.aload_n 0, 1) := by decide +kernel
theorem d_N_init_5 : decode b_N_init 5 = .ok (.iconst 4, 1) := by decide +kernel
theorem d_N_init_6 : decode b_N_init 6 = .ok (.newarray .long, 2) := by decide +kernel
theorem d_N_init_8 : decode b_N_init 8 = .ok (.putfield 9, 3) := by decide +kernel
theorem d_N_init_11 : decode b_N_init 11 = .ok (.aload_n 0, 1) := by decide +kernel
theorem d_N_init_12 : decode b_N_init 12 = .ok (.iconst 0, 1) := by decide +kernel
theorem d_N_init_13 : decode b_N_init 13 = .ok (.putfield 15, 3) := by decide +kernel
theorem d_N_init_16 : decode b_N_init 16 = .ok (.aload_n 0, 1) := by decide +kernel
theorem d_N_init_17 : decode b_N_init 17 = .ok (.aload_n 1, 1) := by decide +kernel
theorem d_N_init_18 : decode b_N_init 18 = .ok (.putfield 19, 3) := by decide +kernel
theorem d_N_init_21 : decode b_N_init 21 = .ok (.aload_n 0, 1) := by decide +kernel
theorem d_N_init_22 : decode b_N_init 22 = .ok (.iload_n 2, 1) := by decide +kernel
theorem d_N_init_23 : decode b_N_init 23 = .ok (.putfield 22, 3) := by decide +kernel
theorem d_N_init_26 : decode b_N_init 26 = .ok (.return_, 1) := by decide +kernel
end
section
theorem d_X_init_0 : decode b_X_init 0 = .ok (.aload_n 0, 1) := by decide +kernel
theorem d_X_init_1 : decode b_X_init 1 = .ok (.invokespecial 3, 3) := by decide +kernel
theorem d_X_init_4 : decode b_X_init 4 = .ok (.aload_n 0, 1) := by decide +kernel
theorem d_X_init_5 : decode b_X_init 5 = .ok (.iconst 4, 1) := by decide +kernel
theorem d_X_init_6 : decode b_X_init 6 = .ok (.newarray .long, 2) := by decide +kernel
theorem d_X_init_8 : decode b_X_init 8 = .ok (.putfield 9, 3) := by decide +kernel
theorem d_X_init_11 : decode b_X_init 11 = .ok (.aload_n 0, 1) := by decide +kernel
theorem d_X_init_12 : decode b_X_init 12 = .ok (.new 13, 3) := by decide +kernel
theorem d_X_init_15 : decode b_X_init 15 = .ok (.dup, 1) := by decide +kernel
theorem d_X_init_16 : decode b_X_init 16 = .ok (.invokespecial 15, 3) := by decide +kernel
theorem d_X_init_19 : decode b_X_init 19 = .ok (.putfield 16, 3) := by decide +kernel
theorem d_X_init_22 : decode b_X_init 22 = .ok (.aload_n 0, 1) := by decide +kernel
theorem d_X_init_23 : decode b_X_init 23 = .ok (.sipush 257, 3) := by decide +kernel
theorem d_X_init_26 : decode b_X_init 26 = .ok (.anewarray 20, 3) := by decide +kernel
theorem d_X_init_29 : decode b_X_init 29 = .ok (.putfield 22, 3) := by decide +kernel
theorem d_X_init_32 : decode b_X_init 32 = .ok (.aload_n 0, 1) := by decide +kernel
theorem d_X_init_33 : decode b_X_init 33 = .ok (.aconst_null, 1) := by decide +kernel
theorem d_X_init_34 : decode b_X_init 34 = .ok (.putfield 26, 3) := by decide +kernel
theorem d_X_init_37 : decode b_X_init 37 = .ok (.aload_n 0, 1) := by decide +kernel
theorem d_X_init_38 : decode b_X_init 38 = .ok (.iconst 0, 1) := by decide +kernel
theorem d_X_init_39 : decode b_X_init 39 = .ok (.putfield 30, 3) := by decide +kernel
theorem d_X_init_42 : decode b_X_init 42 = .ok (.aload_n 0, 1) := by decide +kernel
theorem d_X_init_43 : decode b_X_init 43 = .ok (.sipush 1024, 3) := by decide +kernel
theorem d_X_init_46 : decode b_X_init 46 = .ok (.newarray .long, 2) := by decide +kernel
theorem d_X_init_48 : decode b_X_init 48 = .ok (.putfield 34, 3) := by decide +kernel
theorem d_X_init_51 : decode b_X_init 51 = .ok (.aload_n 0, 1) := by decide +kernel
theorem d_X_init_52 : decode b_X_init 52 = .ok (.iconst 4, 1) := by decide +kernel
theorem d_X_init_53 : decode b_X_init 53 = .ok (.newarray .long, 2) := by decide +kernel
theorem d_X_init_55 : decode b_X_init 55 = .ok (.putfield 37, 3) := by decide +kernel
theorem d_X_init_58 : decode b_X_init 58 = .ok (.aload_n 0, 1) := by decide +kernel
theorem d_X_init_59 : decode b_X_init 59 = .ok (.bipush 8, 2) := by decide +kernel
theorem d_X_init_61 : decode b_X_init 61 = .ok (.newarray .long, 2) := by decide +kernel
theorem d_X_init_63 : decode b_X_init 63 = .ok (.putfield 40, 3) := by decide +kernel
theorem d_X_init_66 : decode b_X_init 66 = .ok (.aload_n 0, 1) := by decide +kernel
theorem d_X_init_67 : decode b_X_init 67 = .ok (.iconst (-1), 1) := by decide +kernel
theorem d_X_init_68 : decode b_X_init 68 = .ok (.putfield 43, 3) := by decide +kernel
theorem d_X_init_71 : decode b_X_init 71 = .ok (.return_, 1) := by decide +kernel
theorem d_X_key_0 : decode b_X_key 0 = .ok (.aload_n 0, 1) := by decide +kernel
theorem d_X_key_1 : decode b_X_key 1 = .ok (.getfield 9, 3) := by decide +kernel
theorem d_X_key_4 : decode b_X_key 4 = .ok (.lload_n 1, 1) := by decide +kernel
theorem d_X_key_5 : decode b_X_key 5 = .ok (.lload_n 3, 1) := by decide +kernel
theorem d_X_key_6 : decode b_X_key 6 = .ok (.lload 5, 2) := by decide +kernel
theorem d_X_key_8 : decode b_X_key 8 = .ok (.lload 7, 2) := by decide +kernel
theorem d_X_key_10 : decode b_X_key 10 = .ok (.invokestatic 46, 3) := by decide +kernel
theorem d_X_key_13 : decode b_X_key 13 = .ok (.return_, 1) := by decide +kernel
theorem d_X_fill_0 : decode b_X_fill 0 = .ok (.aload_n 0, 1) := by decide +kernel
theorem d_X_fill_1 : decode b_X_fill 1 = .ok (.iconst 0, 1) := by decide +kernel
theorem d_X_fill_2 : decode b_X_fill 2 = .ok (.lload_n 1, 1) := by decide +kernel
theorem d_X_fill_3 : decode b_X_fill 3 = .ok (.lastore, 1) := by decide +kernel
theorem d_X_fill_4 : decode b_X_fill 4 = .ok (.aload_n 0, 1) := by decide +kernel
theorem d_X_fill_5 : decode b_X_fill 5 = .ok (.iconst 1, 1) := by decide +kernel
theorem d_X_fill_6 : decode b_X_fill 6 = .ok (.lload_n 3, 1) := by decide +kernel
theorem d_X_fill_7 : decode b_X_fill 7 = .ok (.lastore, 1) := by decide +kernel
theorem d_X_fill_8 : decode b_X_fill 8 = .ok (.aload_n 0, 1) := by decide +kernel
theorem d_X_fill_9 : decode b_X_fill 9 = .ok (.iconst 2, 1) := by decide +kernel
theorem d_X_fill_10 : decode b_X_fill 10 = .ok (.lload 5, 2) := by decide +kernel
theorem d_X_fill_12 : decode b_X_fill 12 = .ok (.lastore, 1) := by decide +kernel
theorem d_X_fill_13 : decode b_X_fill 13 = .ok (.aload_n 0, 1) := by decide +kernel
theorem d_X_fill_14 : decode b_X_fill 14 = .ok (.iconst 3, 1) := by decide +kernel
theorem d_X_fill_15 : decode b_X_fill 15 = .ok (.lload 7, 2) := by decide +kernel
theorem d_X_fill_17 : decode b_X_fill 17 = .ok (.lastore, 1) := by decide +kernel
theorem d_X_fill_18 : decode b_X_fill 18 = .ok (.return_, 1) := by decide +kernel
theorem d_X_set_0 : decode b_X_set 0 = .ok (.aload_n 0, 1) := by decide +kernel
theorem d_X_set_1 : decode b_X_set 1 = .ok (.invokevirtual 50, 3) := by decide +kernel
theorem d_X_set_4 : decode b_X_set 4 = .ok (.astore 9, 2) := by decide +kernel
theorem d_X_set_6 : decode b_X_set 6 = .ok (.aload 9, 2) := by decide +kernel
theorem d_X_set_8 : decode b_X_set 8 = .ok (.ifnull 33, 3) := by decide +kernel
theorem d_X_set_11 : decode b_X_set 11 = .ok (.aload_n 0, 1) := by decide +kernel
theorem d_X_set_12 : decode b_X_set 12 = .ok (.sipush 256, 3) := by decide +kernel
theorem d_X_set_15 : decode b_X_set 15 = .ok (.invokevirtual 54, 3) := by decide +kernel
theorem d_X_set_18 : decode b_X_set 18 = .ok (.pop, 1) := by decide +kernel
theorem d_X_set_19 : decode b_X_set 19 = .ok (.aload 9, 2) := by decide +kernel
theorem d_X_set_21 : decode b_X_set 21 = .ok (.iconst 0, 1) := by decide +kernel
theorem d_X_set_22 : decode b_X_set 22 = .ok (.putfield 58, 3) := by decide +kernel
theorem d_X_set_25 : decode b_X_set 25 = .ok (.aload 9, 2) := by decide +kernel
theorem d_X_set_27 : decode b_X_set 27 = .ok (.getfield 64, 3) := by decide +kernel
theorem d_X_set_30 : decode b_X_set 30 = .ok (.lload_n 1, 1) := by decide +kernel
theorem d_X_set_31 : decode b_X_set 31 = .ok (.lload_n 3, 1) := by decide +kernel
theorem d_X_set_32 : decode b_X_set 32 = .ok (.lload 5, 2) := by decide +kernel
theorem d_X_set_34 : decode b_X_set 34 = .ok (.lload 7, 2) := by decide +kernel
theorem d_X_set_36 : decode b_X_set 36 = .ok (.invokestatic 46, 3) := by decide +kernel
theorem d_X_set_39 : decode b_X_set 39 = .ok (.iconst 0, 1) := by decide +kernel
theorem d_X_set_40 : decode b_X_set 40 = .ok (.ireturn, 1) := by decide +kernel
theorem d_X_set_41 : decode b_X_set 41 = .ok (.aload_n 0, 1) := by decide +kernel
theorem d_X_set_42 : decode b_X_set 42 = .ok (.getfield 30, 3) := by decide +kernel
theorem d_X_set_45 : decode b_X_set 45 = .ok (.sipush 512, 3) := by decide +kernel
theorem d_X_set_48 : decode b_X_set 48 = .ok (.if_icmp .lt 6, 3) := by decide +kernel
theorem d_X_set_51 : decode b_X_set 51 = .ok (.bipush (-3), 2) := by decide +kernel
theorem d_X_set_53 : decode b_X_set 53 = .ok (.ireturn, 1) := by decide +kernel
theorem d_X_set_54 : decode b_X_set 54 = .ok (.new 59, 3) := by decide +kernel
theorem d_X_set_57 : decode b_X_set 57 = .ok (.dup, 1) := by decide +kernel
theorem d_X_set_58 : decode b_X_set 58 = .ok (.aload_n 0, 1) := by decide +kernel
theorem d_X_set_59 : decode b_X_set 59 = .ok (.getfield 9, 3) := by decide +kernel
theorem d_X_set_62 : decode b_X_set 62 = .ok (.invokevirtual 67, 3) := by decide +kernel
theorem d_X_set_65 : decode b_X_set 65 = .ok (.checkcast 68, 3) := by decide +kernel
theorem d_X_set_68 : decode b_X_set 68 = .ok (.invokespecial 72, 3) := by decide +kernel
theorem d_X_set_71 : decode b_X_set 71 = .ok (.astore 10, 2) := by decide +kernel
theorem d_X_set_73 : decode b_X_set 73 = .ok (.aload 10, 2) := by decide +kernel
theorem d_X_set_75 : decode b_X_set 75 = .ok (.getfield 64, 3) := by decide +kernel
theorem d_X_set_78 : decode b_X_set 78 = .ok (.lload_n 1, 1) := by decide +kernel
theorem d_X_set_79 : decode b_X_set 79 = .ok (.lload_n 3, 1) := by decide +kernel
theorem d_X_set_80 : decode b_X_set 80 = .ok (.lload 5, 2) := by decide +kernel
theorem d_X_set_82 : decode b_X_set 82 = .ok (.lload 7, 2) := by decide +kernel
theorem d_X_set_84 : decode b_X_set 84 = .ok (.invokestatic 46, 3) := by decide +kernel
theorem d_X_set_87 : decode b_X_set 87 = .ok (.aload_n 0, 1) := by decide +kernel
theorem d_X_set_88 : decode b_X_set 88 = .ok (.aload 10, 2) := by decide +kernel
theorem d_X_set_90 : decode b_X_set 90 = .ok (.invokevirtual 75, 3) := by decide +kernel
theorem d_X_set_93 : decode b_X_set 93 = .ok (.aload_n 0, 1) := by decide +kernel
theorem d_X_set_94 : decode b_X_set 94 = .ok (.dup, 1) := by decide +kernel
theorem d_X_set_95 : decode b_X_set 95 = .ok (.getfield 30, 3) := by decide +kernel
theorem d_X_set_98 : decode b_X_set 98 = .ok (.iconst 1, 1) := by decide +kernel
theorem d_X_set_99 : decode b_X_set 99 = .ok (.iadd, 1) := by decide +kernel
theorem d_X_set_100 : decode b_X_set 100 = .ok (.putfield 30, 3) := by decide +kernel
theorem d_X_set_103 : decode b_X_set 103 = .ok (.iconst 1, 1) := by decide +kernel
theorem d_X_set_104 : decode b_X_set 104 = .ok (.ireturn, 1) := by decide +kernel
theorem d_X_leafOfKey_0 : decode b_X_leafOfKey 0 = .ok (.aload_n 0, 1) := by decide +kernel
theorem d_X_leafOfKey_1 : decode b_X_leafOfKey 1 = .ok (.invokevirtual 112, 3) := by decide +kernel
theorem d_X_leafOfKey_4 : decode b_X_leafOfKey 4 = .ok (.astore_n 1, 1) := by decide +kernel
theorem d_X_leafOfKey_5 : decode b_X_leafOfKey 5 = .ok (.aload_n 1, 1) := by decide +kernel
theorem d_X_leafOfKey_6 : decode b_X_leafOfKey 6 = .ok (.ifnull 24, 3) := by decide +kernel
theorem d_X_leafOfKey_9 : decode b_X_leafOfKey 9 = .ok (.aload_n 0, 1) := by decide +kernel
theorem d_X_leafOfKey_10 : decode b_X_leafOfKey 10 = .ok (.getfield 9, 3) := by decide +kernel
theorem d_X_leafOfKey_13 : decode b_X_leafOfKey 13 = .ok (.aload_n 1, 1) := by decide +kernel
theorem d_X_leafOfKey_14 : decode b_X_leafOfKey 14 = .ok (.getfield 115, 3) := by decide +kernel
theorem d_X_leafOfKey_17 : decode b_X_leafOfKey 17 = .ok (.invokestatic 116, 3) := by decide +kernel
theorem d_X_leafOfKey_20 : decode b_X_leafOfKey 20 = .ok (.sipush 256, 3) := by decide +kernel
theorem d_X_leafOfKey_23 : decode b_X_leafOfKey 23 = .ok (.if_icmp .ne 7, 3) := by decide +kernel
theorem d_X_leafOfKey_26 : decode b_X_leafOfKey 26 = .ok (.aload_n 1, 1) := by decide +kernel
theorem d_X_leafOfKey_27 : decode b_X_leafOfKey 27 = .ok (.goto 4, 3) := by decide +kernel
theorem d_X_leafOfKey_30 : decode b_X_leafOfKey 30 = .ok (.aconst_null, 1) := by decide +kernel
theorem d_X_leafOfKey_31 : decode b_X_leafOfKey 31 = .ok (.areturn, 1) := by decide +kernel
theorem d_X_nearestLeaf_0 : decode b_X_nearestLeaf 0 = .ok (.aload_n 0, 1) := by decide +kernel
theorem d_X_nearestLeaf_1 : decode b_X_nearestLeaf 1 = .ok (.getfield 26, 3) := by decide +kernel
theorem d_X_nearestLeaf_4 : decode b_X_nearestLeaf 4 = .ok (.astore_n 1, 1) := by decide +kernel
theorem d_X_nearestLeaf_5 : decode b_X_nearestLeaf 5 = .ok (.aload_n 1, 1) := by decide +kernel
theorem d_X_nearestLeaf_6 : decode b_X_nearestLeaf 6 = .ok (.instanceof 80, 3) := by decide +kernel
theorem d_X_nearestLeaf_9 : decode b_X_nearestLeaf 9 = .ok (.ifCond .eq 27, 3) := by decide +kernel
theorem d_X_nearestLeaf_12 : decode b_X_nearestLeaf 12 = .ok (.aload_n 1, 1) := by decide +kernel
theorem d_X_nearestLeaf_13 : decode b_X_nearestLeaf 13 = .ok (.checkcast 80, 3) := by decide +kernel
theorem d_X_nearestLeaf_16 : decode b_X_nearestLeaf 16 = .ok (.astore_n 2, 1) := by decide +kernel
theorem d_X_nearestLeaf_17 : decode b_X_nearestLeaf 17 = .ok (.aload_n 2, 1) := by decide +kernel
theorem d_X_nearestLeaf_18 : decode b_X_nearestLeaf 18 = .ok (.aload_n 0, 1) := by decide +kernel
theorem d_X_nearestLeaf_19 : decode b_X_nearestLeaf 19 = .ok (.getfield 9, 3) := by decide +kernel
theorem d_X_nearestLeaf_22 : decode b_X_nearestLeaf 22 = .ok (.aload_n 2, 1) := by decide +kernel
theorem d_X_nearestLeaf_23 : decode b_X_nearestLeaf 23 = .ok (.getfield 79, 3) := by decide +kernel
theorem d_X_nearestLeaf_26 : decode b_X_nearestLeaf 26 = .ok (.invokestatic 84, 3) := by decide +kernel
theorem d_X_nearestLeaf_29 : decode b_X_nearestLeaf 29 = .ok (.invokevirtual 88, 3) := by decide +kernel
theorem d_X_nearestLeaf_32 : decode b_X_nearestLeaf 32 = .ok (.astore_n 1, 1) := by decide +kernel
theorem d_X_nearestLeaf_33 : decode b_X_nearestLeaf 33 = .ok (.goto (-28), 3) := by decide +kernel
theorem d_X_nearestLeaf_36 : decode b_X_nearestLeaf 36 = .ok (.aload_n 1, 1) := by decide +kernel
theorem d_X_nearestLeaf_37 : decode b_X_nearestLeaf 37 = .ok (.instanceof 59, 3) := by decide +kernel
theorem d_X_nearestLeaf_40 : decode b_X_nearestLeaf 40 = .ok (.ifCond .eq 12, 3) := by decide +kernel
theorem d_X_nearestLeaf_43 : decode b_X_nearestLeaf 43 = .ok (.aload_n 1, 1) := by decide +kernel
theorem d_X_nearestLeaf_44 : decode b_X_nearestLeaf 44 = .ok (.checkcast 59, 3) := by decide +kernel
theorem d_X_nearestLeaf_47 : decode b_X_nearestLeaf 47 = .ok (.astore_n 2, 1) := by decide +kernel
theorem d_X_nearestLeaf_48 : decode b_X_nearestLeaf 48 = .ok (.aload_n 2, 1) := by decide +kernel
theorem d_X_nearestLeaf_49 : decode b_X_nearestLeaf 49 = .ok (.goto 4, 3) := by decide +kernel
theorem d_X_nearestLeaf_52 : decode b_X_nearestLeaf 52 = .ok (.aconst_null, 1) := by decide +kernel
theorem d_X_nearestLeaf_53 : decode b_X_nearestLeaf 53 = .ok (.areturn, 1) := by decide +kernel
theorem d_X_isOne_0 : decode b_X_isOne 0 = .ok (.aload_n 0, 1) := by decide +kernel
theorem d_X_isOne_1 : decode b_X_isOne 1 = .ok (.iload_n 1, 1) := by decide +kernel
theorem d_X_isOne_2 : decode b_X_isOne 2 = .ok (.bipush 6, 2) := by decide +kernel
theorem d_X_isOne_4 : decode b_X_isOne 4 = .ok (.ishr, 1) := by decide +kernel
theorem d_X_isOne_5 : decode b_X_isOne 5 = .ok (.iconst 3, 1) := by decide +kernel
theorem d_X_isOne_6 : decode b_X_isOne 6 = .ok (.iand, 1) := by decide +kernel
theorem d_X_isOne_7 : decode b_X_isOne 7 = .ok (.laload, 1) := by decide +kernel
theorem d_X_isOne_8 : decode b_X_isOne 8 = .ok (.iload_n 1, 1) := by decide +kernel
theorem d_X_isOne_9 : decode b_X_isOne 9 = .ok (.bipush 63, 2) := by decide +kernel
theorem d_X_isOne_11 : decode b_X_isOne 11 = .ok (.iand, 1) := by decide +kernel
theorem d_X_isOne_12 : decode b_X_isOne 12 = .ok (.lshl, 1) := by decide +kernel
theorem d_X_isOne_13 : decode b_X_isOne 13 = .ok (.lconst 0, 1) := by decide +kernel
theorem d_X_isOne_14 : decode b_X_isOne 14 = .ok (.lcmp, 1) := by decide +kernel
theorem d_X_isOne_15 : decode b_X_isOne 15 = .ok (.ifCond .ge 7, 3) := by decide +kernel
theorem d_X_isOne_18 : decode b_X_isOne 18 = .ok (.iconst 1, 1) := by decide +kernel
theorem d_X_isOne_19 : decode b_X_isOne 19 = .ok (.goto 4, 3) := by decide +kernel
theorem d_X_isOne_22 : decode b_X_isOne 22 = .ok (.iconst 0, 1) := by decide +kernel
theorem d_X_isOne_23 : decode b_X_isOne 23 = .ok (.ireturn, 1) := by decide +kernel
theorem d_X_partingLevel_0 : decode b_X_partingLevel 0 = .ok (.iconst 0, 1) := by decide +kernel
theorem d_X_partingLevel_1 : decode b_X_partingLevel 1 = .ok (.istore_n 2, 1) := by decide +kernel
theorem d_X_partingLevel_2 : decode b_X_partingLevel 2 = .ok (.iload_n 2, 1) := by decide +kernel
theorem d_X_partingLevel_3 : decode b_X_partingLevel 3 = .ok (.iconst 4, 1) := by decide +kernel
theorem d_X_partingLevel_4 : decode b_X_partingLevel 4 = .ok (.if_icmp .ge 33, 3) := by decide +kernel
theorem d_X_partingLevel_7 : decode b_X_partingLevel 7 = .ok (.aload_n 0, 1) := by decide +kernel
theorem d_X_partingLevel_8 : decode b_X_partingLevel 8 = .ok (.iload_n 2, 1) := by decide +kernel
theorem d_X_partingLevel_9 : decode b_X_partingLevel 9 = .ok (.laload, 1) := by decide +kernel
theorem d_X_partingLevel_10 : decode b_X_partingLevel 10 = .ok (.aload_n 1, 1) := by decide +kernel
theorem d_X_partingLevel_11 : decode b_X_partingLevel 11 = .ok (.iload_n 2, 1) := by decide +kernel
theorem d_X_partingLevel_12 : decode b_X_partingLevel 12 = .ok (.laload, 1) := by decide +kernel
theorem d_X_partingLevel_13 : decode b_X_partingLevel 13 = .ok (.lxor, 1) := by decide +kernel
theorem d_X_partingLevel_14 : decode b_X_partingLevel 14 = .ok (.lstore_n 3, 1) := by decide +kernel
theorem d_X_partingLevel_15 : decode b_X_partingLevel 15 = .ok (.lload_n 3, 1) := by decide +kernel
theorem d_X_partingLevel_16 : decode b_X_partingLevel 16 = .ok (.lconst 0, 1) := by decide +kernel
theorem d_X_partingLevel_17 : decode b_X_partingLevel 17 = .ok (.lcmp, 1) := by decide +kernel
theorem d_X_partingLevel_18 : decode b_X_partingLevel 18 = .ok (.ifCond .eq 13, 3) := by decide +kernel
theorem d_X_partingLevel_21 : decode b_X_partingLevel 21 = .ok (.iload_n 2, 1) := by decide +kernel
theorem d_X_partingLevel_22 : decode b_X_partingLevel 22 = .ok (.bipush 64, 2) := by decide +kernel
theorem d_X_partingLevel_24 : decode b_X_partingLevel 24 = .ok (.imul, 1) := by decide +kernel
theorem d_X_partingLevel_25 : decode b_X_partingLevel 25 = .ok (.lload_n 3, 1) := by decide +kernel
theorem d_X_partingLevel_26 : decode b_X_partingLevel 26 = .ok (.invokestatic 145, 3) := by decide +kernel
theorem d_X_partingLevel_29 : decode b_X_partingLevel 29 = .ok (.iadd, 1) := by decide +kernel
theorem d_X_partingLevel_30 : decode b_X_partingLevel 30 = .ok (.ireturn, 1) := by decide +kernel
theorem d_X_partingLevel_31 : decode b_X_partingLevel 31 = .ok (.iinc 2 1, 3) := by decide +kernel
theorem d_X_partingLevel_34 : decode b_X_partingLevel 34 = .ok (.goto (-32), 3) := by decide +kernel
theorem d_X_partingLevel_37 : decode b_X_partingLevel 37 = .ok (.sipush 256, 3) := by decide +kernel
theorem d_X_partingLevel_40 : decode b_X_partingLevel 40 = .ok (.ireturn, 1) := by decide +kernel
theorem d_X_stalePath_0 : decode b_X_stalePath 0 = .ok (.aconst_null, 1) := by decide +kernel
theorem d_X_stalePath_1 : decode b_X_stalePath 1 = .ok (.astore_n 2, 1) := by decide +kernel
theorem d_X_stalePath_2 : decode b_X_stalePath 2 = .ok (.aload_n 0, 1) := by decide +kernel
theorem d_X_stalePath_3 : decode b_X_stalePath 3 = .ok (.getfield 26, 3) := by decide +kernel
theorem d_X_stalePath_6 : decode b_X_stalePath 6 = .ok (.astore_n 3, 1) := by decide +kernel
theorem d_X_stalePath_7 : decode b_X_stalePath 7 = .ok (.aload_n 3, 1) := by decide +kernel
theorem d_X_stalePath_8 : decode b_X_stalePath 8 = .ok (.instanceof 80, 3) := by decide +kernel
theorem d_X_stalePath_11 : decode b_X_stalePath 11 = .ok (.ifCond .eq 48, 3) := by decide +kernel
theorem d_X_stalePath_14 : decode b_X_stalePath 14 = .ok (.aload_n 3, 1) := by decide +kernel
theorem d_X_stalePath_15 : decode b_X_stalePath 15 = .ok (.checkcast 80, 3) := by decide +kernel
theorem d_X_stalePath_18 : decode b_X_stalePath 18 = .ok (.astore 4, 2) := by decide +kernel
theorem d_X_stalePath_20 : decode b_X_stalePath 20 = .ok (.aload 4, 2) := by decide +kernel
theorem d_X_stalePath_22 : decode b_X_stalePath 22 = .ok (.getfield 79, 3) := by decide +kernel
theorem d_X_stalePath_25 : decode b_X_stalePath 25 = .ok (.iload_n 1, 1) := by decide +kernel
theorem d_X_stalePath_26 : decode b_X_stalePath 26 = .ok (.if_icmp .ge 33, 3) := by decide +kernel
theorem d_X_stalePath_29 : decode b_X_stalePath 29 = .ok (.aload 4, 2) := by decide +kernel
theorem d_X_stalePath_31 : decode b_X_stalePath 31 = .ok (.iconst 0, 1) := by decide +kernel
theorem d_X_stalePath_32 : decode b_X_stalePath 32 = .ok (.putfield 151, 3) := by decide +kernel
theorem d_X_stalePath_35 : decode b_X_stalePath 35 = .ok (.aload 4, 2) := by decide +kernel
theorem d_X_stalePath_37 : decode b_X_stalePath 37 = .ok (.astore_n 2, 1) := by decide +kernel
theorem d_X_stalePath_38 : decode b_X_stalePath 38 = .ok (.aload 4, 2) := by decide +kernel
theorem d_X_stalePath_40 : decode b_X_stalePath 40 = .ok (.aload_n 0, 1) := by decide +kernel
theorem d_X_stalePath_41 : decode b_X_stalePath 41 = .ok (.getfield 9, 3) := by decide +kernel
theorem d_X_stalePath_44 : decode b_X_stalePath 44 = .ok (.aload 4, 2) := by decide +kernel
theorem d_X_stalePath_46 : decode b_X_stalePath 46 = .ok (.getfield 79, 3) := by decide +kernel
theorem d_X_stalePath_49 : decode b_X_stalePath 49 = .ok (.invokestatic 84, 3) := by decide +kernel
theorem d_X_stalePath_52 : decode b_X_stalePath 52 = .ok (.invokevirtual 88, 3) := by decide +kernel
theorem d_X_stalePath_55 : decode b_X_stalePath 55 = .ok (.astore_n 3, 1) := by decide +kernel
theorem d_X_stalePath_56 : decode b_X_stalePath 56 = .ok (.goto (-49), 3) := by decide +kernel
theorem d_X_stalePath_59 : decode b_X_stalePath 59 = .ok (.aload_n 2, 1) := by decide +kernel
theorem d_X_stalePath_60 : decode b_X_stalePath 60 = .ok (.areturn, 1) := by decide +kernel
theorem d_X_insert_0 : decode b_X_insert 0 = .ok (.aload_n 0, 1) := by decide +kernel
theorem d_X_insert_1 : decode b_X_insert 1 = .ok (.invokevirtual 112, 3) := by decide +kernel
theorem d_X_insert_4 : decode b_X_insert 4 = .ok (.astore_n 2, 1) := by decide +kernel
theorem d_X_insert_5 : decode b_X_insert 5 = .ok (.aload_n 2, 1) := by decide +kernel
theorem d_X_insert_6 : decode b_X_insert 6 = .ok (.ifnonnull 9, 3) := by decide +kernel
theorem d_X_insert_9 : decode b_X_insert 9 = .ok (.aload_n 0, 1) := by decide +kernel
theorem d_X_insert_10 : decode b_X_insert 10 = .ok (.aload_n 1, 1) := by decide +kernel
theorem d_X_insert_11 : decode b_X_insert 11 = .ok (.putfield 26, 3) := by decide +kernel
theorem d_X_insert_14 : decode b_X_insert 14 = .ok (.return_, 1) := by decide +kernel
theorem d_X_insert_15 : decode b_X_insert 15 = .ok (.aload_n 0, 1) := by decide +kernel
theorem d_X_insert_16 : decode b_X_insert 16 = .ok (.getfield 9, 3) := by decide +kernel
theorem d_X_insert_19 : decode b_X_insert 19 = .ok (.aload_n 2, 1) := by decide +kernel
theorem d_X_insert_20 : decode b_X_insert 20 = .ok (.getfield 115, 3) := by decide +kernel
theorem d_X_insert_23 : decode b_X_insert 23 = .ok (.invokestatic 116, 3) := by decide +kernel
theorem d_X_insert_26 : decode b_X_insert 26 = .ok (.istore_n 3, 1) := by decide +kernel
theorem d_X_insert_27 : decode b_X_insert 27 = .ok (.aload_n 0, 1) := by decide +kernel
theorem d_X_insert_28 : decode b_X_insert 28 = .ok (.iload_n 3, 1) := by decide +kernel
theorem d_X_insert_29 : decode b_X_insert 29 = .ok (.invokevirtual 54, 3) := by decide +kernel
theorem d_X_insert_32 : decode b_X_insert 32 = .ok (.astore 4, 2) := by decide +kernel
theorem d_X_insert_34 : decode b_X_insert 34 = .ok (.aload 4, 2) := by decide +kernel
theorem d_X_insert_36 : decode b_X_insert 36 = .ok (.ifnonnull 10, 3) := by decide +kernel
theorem d_X_insert_39 : decode b_X_insert 39 = .ok (.aload_n 0, 1) := by decide +kernel
theorem d_X_insert_40 : decode b_X_insert 40 = .ok (.getfield 26, 3) := by decide +kernel
theorem d_X_insert_43 : decode b_X_insert 43 = .ok (.goto 20, 3) := by decide +kernel
theorem d_X_insert_46 : decode b_X_insert 46 = .ok (.aload 4, 2) := by decide +kernel
theorem d_X_insert_48 : decode b_X_insert 48 = .ok (.aload_n 0, 1) := by decide +kernel
theorem d_X_insert_49 : decode b_X_insert 49 = .ok (.getfield 9, 3) := by decide +kernel
theorem d_X_insert_52 : decode b_X_insert 52 = .ok (.aload 4, 2) := by decide +kernel
theorem d_X_insert_54 : decode b_X_insert 54 = .ok (.getfield 79, 3) := by decide +kernel
theorem d_X_insert_57 : decode b_X_insert 57 = .ok (.invokestatic 84, 3) := by decide +kernel
theorem d_X_insert_60 : decode b_X_insert 60 = .ok (.invokevirtual 88, 3) := by decide +kernel
theorem d_X_insert_63 : decode b_X_insert 63 = .ok (.astore 5, 2) := by decide +kernel
theorem d_X_insert_65 : decode b_X_insert 65 = .ok (.aload 5, 2) := by decide +kernel
theorem d_X_insert_67 : decode b_X_insert 67 = .ok (.iconst 0, 1) := by decide +kernel
theorem d_X_insert_68 : decode b_X_insert 68 = .ok (.putfield 92, 3) := by decide +kernel
theorem d_X_insert_71 : decode b_X_insert 71 = .ok (.aload_n 0, 1) := by decide +kernel
theorem d_X_insert_72 : decode b_X_insert 72 = .ok (.getfield 9, 3) := by decide +kernel
theorem d_X_insert_75 : decode b_X_insert 75 = .ok (.iload_n 3, 1) := by decide +kernel
theorem d_X_insert_76 : decode b_X_insert 76 = .ok (.invokestatic 84, 3) := by decide +kernel
theorem d_X_insert_79 : decode b_X_insert 79 = .ok (.istore 6, 2) := by decide +kernel
theorem d_X_insert_81 : decode b_X_insert 81 = .ok (.aload_n 0, 1) := by decide +kernel
theorem d_X_insert_82 : decode b_X_insert 82 = .ok (.aload 4, 2) := by decide +kernel
theorem d_X_insert_84 : decode b_X_insert 84 = .ok (.new 80, 3) := by decide +kernel
theorem d_X_insert_87 : decode b_X_insert 87 = .ok (.dup, 1) := by decide +kernel
theorem d_X_insert_88 : decode b_X_insert 88 = .ok (.aload_n 1, 1) := by decide +kernel
theorem d_X_insert_89 : decode b_X_insert 89 = .ok (.getfield 115, 3) := by decide +kernel
theorem d_X_insert_92 : decode b_X_insert 92 = .ok (.iload_n 3, 1) := by decide +kernel
theorem d_X_insert_93 : decode b_X_insert 93 = .ok (.iload 6, 2) := by decide +kernel
theorem d_X_insert_95 : decode b_X_insert 95 = .ok (.ifCond .eq 8, 3) := by decide +kernel
theorem d_X_insert_98 : decode b_X_insert 98 = .ok (.aload 5, 2) := by decide +kernel
theorem d_X_insert_100 : decode b_X_insert 100 = .ok (.goto 4, 3) := by decide +kernel
theorem d_X_insert_103 : decode b_X_insert 103 = .ok (.aload_n 1, 1) := by decide +kernel
theorem d_X_insert_104 : decode b_X_insert 104 = .ok (.iload 6, 2) := by decide +kernel
theorem d_X_insert_106 : decode b_X_insert 106 = .ok (.ifCond .eq 7, 3) := by decide +kernel
theorem d_X_insert_109 : decode b_X_insert 109 = .ok (.aload_n 1, 1) := by decide +kernel
theorem d_X_insert_110 : decode b_X_insert 110 = .ok (.goto 5, 3) := by decide +kernel
theorem d_X_insert_113 : decode b_X_insert 113 = .ok (.aload 5, 2) := by decide +kernel
theorem d_X_insert_115 : decode b_X_insert 115 = .ok (.invokespecial 152, 3) := by decide +kernel
theorem d_X_insert_118 : decode b_X_insert 118 = .ok (.invokevirtual 93, 3) := by decide +kernel
theorem d_X_insert_121 : decode b_X_insert 121 = .ok (.return_, 1) := by decide +kernel
theorem d_X_hang_0 : decode b_X_hang 0 = .ok (.aload_n 1, 1) := by decide +kernel
theorem d_X_hang_1 : decode b_X_hang 1 = .ok (.ifnonnull 11, 3) := by decide +kernel
theorem d_X_hang_4 : decode b_X_hang 4 = .ok (.aload_n 0, 1) := by decide +kernel
theorem d_X_hang_5 : decode b_X_hang 5 = .ok (.aload_n 2, 1) := by decide +kernel
theorem d_X_hang_6 : decode b_X_hang 6 = .ok (.putfield 26, 3) := by decide +kernel
theorem d_X_hang_9 : decode b_X_hang 9 = .ok (.goto 19, 3) := by decide +kernel
theorem d_X_hang_12 : decode b_X_hang 12 = .ok (.aload_n 1, 1) := by decide +kernel
theorem d_X_hang_13 : decode b_X_hang 13 = .ok (.aload_n 0, 1) := by decide +kernel
theorem d_X_hang_14 : decode b_X_hang 14 = .ok (.getfield 9, 3) := by decide +kernel
theorem d_X_hang_17 : decode b_X_hang 17 = .ok (.aload_n 1, 1) := by decide +kernel
theorem d_X_hang_18 : decode b_X_hang 18 = .ok (.getfield 79, 3) := by decide +kernel
theorem d_X_hang_21 : decode b_X_hang 21 = .ok (.invokestatic 84, 3) := by decide +kernel
theorem d_X_hang_24 : decode b_X_hang 24 = .ok (.aload_n 2, 1) := by decide +kernel
theorem d_X_hang_25 : decode b_X_hang 25 = .ok (.invokevirtual 155, 3) := by decide +kernel
theorem d_X_hang_28 : decode b_X_hang 28 = .ok (.return_, 1) := by decide +kernel
theorem d_X_remove_0 : decode b_X_remove 0 = .ok (.aload_n 0, 1) := by decide +kernel
theorem d_X_remove_1 : decode b_X_remove 1 = .ok (.invokevirtual 50, 3) := by decide +kernel
theorem d_X_remove_4 : decode b_X_remove 4 = .ok (.ifnonnull 6, 3) := by decide +kernel
theorem d_X_remove_7 : decode b_X_remove 7 = .ok (.bipush (-2), 2) := by decide +kernel
theorem d_X_remove_9 : decode b_X_remove 9 = .ok (.ireturn, 1) := by decide +kernel
theorem d_X_remove_10 : decode b_X_remove 10 = .ok (.aload_n 0, 1) := by decide +kernel
theorem d_X_remove_11 : decode b_X_remove 11 = .ok (.sipush 256, 3) := by decide +kernel
theorem d_X_remove_14 : decode b_X_remove 14 = .ok (.invokevirtual 54, 3) := by decide +kernel
theorem d_X_remove_17 : decode b_X_remove 17 = .ok (.astore_n 1, 1) := by decide +kernel
theorem d_X_remove_18 : decode b_X_remove 18 = .ok (.aload_n 1, 1) := by decide +kernel
theorem d_X_remove_19 : decode b_X_remove 19 = .ok (.ifnonnull 11, 3) := by decide +kernel
theorem d_X_remove_22 : decode b_X_remove 22 = .ok (.aload_n 0, 1) := by decide +kernel
theorem d_X_remove_23 : decode b_X_remove 23 = .ok (.aconst_null, 1) := by decide +kernel
theorem d_X_remove_24 : decode b_X_remove 24 = .ok (.putfield 26, 3) := by decide +kernel
theorem d_X_remove_27 : decode b_X_remove 27 = .ok (.goto 45, 3) := by decide +kernel
theorem d_X_remove_30 : decode b_X_remove 30 = .ok (.aload_n 1, 1) := by decide +kernel
theorem d_X_remove_31 : decode b_X_remove 31 = .ok (.aload_n 0, 1) := by decide +kernel
theorem d_X_remove_32 : decode b_X_remove 32 = .ok (.getfield 9, 3) := by decide +kernel
theorem d_X_remove_35 : decode b_X_remove 35 = .ok (.aload_n 1, 1) := by decide +kernel
theorem d_X_remove_36 : decode b_X_remove 36 = .ok (.getfield 79, 3) := by decide +kernel
theorem d_X_remove_39 : decode b_X_remove 39 = .ok (.invokestatic 84, 3) := by decide +kernel
theorem d_X_remove_42 : decode b_X_remove 42 = .ok (.ifCond .ne 7, 3) := by decide +kernel
theorem d_X_remove_45 : decode b_X_remove 45 = .ok (.iconst 1, 1) := by decide +kernel
theorem d_X_remove_46 : decode b_X_remove 46 = .ok (.goto 4, 3) := by decide +kernel
theorem d_X_remove_49 : decode b_X_remove 49 = .ok (.iconst 0, 1) := by decide +kernel
theorem d_X_remove_50 : decode b_X_remove 50 = .ok (.invokevirtual 88, 3) := by decide +kernel
theorem d_X_remove_53 : decode b_X_remove 53 = .ok (.astore_n 2, 1) := by decide +kernel
theorem d_X_remove_54 : decode b_X_remove 54 = .ok (.aload_n 2, 1) := by decide +kernel
theorem d_X_remove_55 : decode b_X_remove 55 = .ok (.iconst 0, 1) := by decide +kernel
theorem d_X_remove_56 : decode b_X_remove 56 = .ok (.putfield 92, 3) := by decide +kernel
theorem d_X_remove_59 : decode b_X_remove 59 = .ok (.aload_n 0, 1) := by decide +kernel
theorem d_X_remove_60 : decode b_X_remove 60 = .ok (.aload_n 0, 1) := by decide +kernel
theorem d_X_remove_61 : decode b_X_remove 61 = .ok (.aload_n 1, 1) := by decide +kernel
theorem d_X_remove_62 : decode b_X_remove 62 = .ok (.getfield 79, 3) := by decide +kernel
theorem d_X_remove_65 : decode b_X_remove 65 = .ok (.invokevirtual 54, 3) := by decide +kernel
theorem d_X_remove_68 : decode b_X_remove 68 = .ok (.aload_n 2, 1) := by decide +kernel
theorem d_X_remove_69 : decode b_X_remove 69 = .ok (.invokevirtual 93, 3) := by decide +kernel
theorem d_X_remove_72 : decode b_X_remove 72 = .ok (.aload_n 0, 1) := by decide +kernel
theorem d_X_remove_73 : decode b_X_remove 73 = .ok (.dup, 1) := by decide +kernel
theorem d_X_remove_74 : decode b_X_remove 74 = .ok (.getfield 30, 3) := by decide +kernel
theorem d_X_remove_77 : decode b_X_remove 77 = .ok (.iconst 1, 1) := by decide +kernel
theorem d_X_remove_78 : decode b_X_remove 78 = .ok (.isub, 1) := by decide +kernel
theorem d_X_remove_79 : decode b_X_remove 79 = .ok (.putfield 30, 3) := by decide +kernel
theorem d_X_remove_82 : decode b_X_remove 82 = .ok (.iconst 1, 1) := by decide +kernel
theorem d_X_remove_83 : decode b_X_remove 83 = .ok (.ireturn, 1) := by decide +kernel
theorem d_X_has_0 : decode b_X_has 0 = .ok (.aload_n 0, 1) := by decide +kernel
theorem d_X_has_1 : decode b_X_has 1 = .ok (.invokevirtual 50, 3) := by decide +kernel
theorem d_X_has_4 : decode b_X_has 4 = .ok (.ifnull 7, 3) := by decide +kernel
theorem d_X_has_7 : decode b_X_has 7 = .ok (.iconst 1, 1) := by decide +kernel
theorem d_X_has_8 : decode b_X_has 8 = .ok (.goto 4, 3) := by decide +kernel
theorem d_X_has_11 : decode b_X_has 11 = .ok (.iconst 0, 1) := by decide +kernel
theorem d_X_has_12 : decode b_X_has 12 = .ok (.ireturn, 1) := by decide +kernel
theorem d_X_value_0 : decode b_X_value 0 = .ok (.aload_n 0, 1) := by decide +kernel
theorem d_X_value_1 : decode b_X_value 1 = .ok (.invokevirtual 50, 3) := by decide +kernel
theorem d_X_value_4 : decode b_X_value 4 = .ok (.astore_n 2, 1) := by decide +kernel
theorem d_X_value_5 : decode b_X_value 5 = .ok (.aload_n 2, 1) := by decide +kernel
theorem d_X_value_6 : decode b_X_value 6 = .ok (.ifnull 19, 3) := by decide +kernel
theorem d_X_value_9 : decode b_X_value 9 = .ok (.iload_n 1, 1) := by decide +kernel
theorem d_X_value_10 : decode b_X_value 10 = .ok (.invokestatic 97, 3) := by decide +kernel
theorem d_X_value_13 : decode b_X_value 13 = .ok (.ifCond .eq 12, 3) := by decide +kernel
theorem d_X_value_16 : decode b_X_value 16 = .ok (.aload_n 2, 1) := by decide +kernel
theorem d_X_value_17 : decode b_X_value 17 = .ok (.getfield 64, 3) := by decide +kernel
theorem d_X_value_20 : decode b_X_value 20 = .ok (.iload_n 1, 1) := by decide +kernel
theorem d_X_value_21 : decode b_X_value 21 = .ok (.laload, 1) := by decide +kernel
theorem d_X_value_22 : decode b_X_value 22 = .ok (.goto 4, 3) := by decide +kernel
theorem d_X_value_25 : decode b_X_value 25 = .ok (.lconst 0, 1) := by decide +kernel
theorem d_X_value_26 : decode b_X_value 26 = .ok (.lreturn, 1) := by decide +kernel
theorem d_X_isNumber_0 : decode b_X_isNumber 0 = .ok (.iload_n 0, 1) := by decide +kernel
theorem d_X_isNumber_1 : decode b_X_isNumber 1 = .ok (.ifCond .lt 12, 3) := by decide +kernel
theorem d_X_isNumber_4 : decode b_X_isNumber 4 = .ok (.iload_n 0, 1) := by decide +kernel
theorem d_X_isNumber_5 : decode b_X_isNumber 5 = .ok (.iconst 4, 1) := by decide +kernel
theorem d_X_isNumber_6 : decode b_X_isNumber 6 = .ok (.if_icmp .ge 7, 3) := by decide +kernel
theorem d_X_isNumber_9 : decode b_X_isNumber 9 = .ok (.iconst 1, 1) := by decide +kernel
theorem d_X_isNumber_10 : decode b_X_isNumber 10 = .ok (.goto 4, 3) := by decide +kernel
theorem d_X_isNumber_13 : decode b_X_isNumber 13 = .ok (.iconst 0, 1) := by decide +kernel
theorem d_X_isNumber_14 : decode b_X_isNumber 14 = .ok (.ireturn, 1) := by decide +kernel
theorem d_X_count_0 : decode b_X_count 0 = .ok (.aload_n 0, 1) := by decide +kernel
theorem d_X_count_1 : decode b_X_count 1 = .ok (.getfield 30, 3) := by decide +kernel
theorem d_X_count_4 : decode b_X_count 4 = .ok (.ireturn, 1) := by decide +kernel
theorem d_X_root_0 : decode b_X_root 0 = .ok (.aload_n 0, 1) := by decide +kernel
theorem d_X_root_1 : decode b_X_root 1 = .ok (.getfield 26, 3) := by decide +kernel
theorem d_X_root_4 : decode b_X_root 4 = .ok (.ifnull 10, 3) := by decide +kernel
theorem d_X_root_7 : decode b_X_root 7 = .ok (.iload_n 1, 1) := by decide +kernel
theorem d_X_root_8 : decode b_X_root 8 = .ok (.invokestatic 97, 3) := by decide +kernel
theorem d_X_root_11 : decode b_X_root 11 = .ok (.ifCond .ne 5, 3) := by decide +kernel
theorem d_X_root_14 : decode b_X_root 14 = .ok (.lconst 0, 1) := by decide +kernel
theorem d_X_root_15 : decode b_X_root 15 = .ok (.lreturn, 1) := by decide +kernel
theorem d_X_root_16 : decode b_X_root 16 = .ok (.aload_n 0, 1) := by decide +kernel
theorem d_X_root_17 : decode b_X_root 17 = .ok (.invokevirtual 101, 3) := by decide +kernel
theorem d_X_root_20 : decode b_X_root 20 = .ok (.aload_n 0, 1) := by decide +kernel
theorem d_X_root_21 : decode b_X_root 21 = .ok (.getfield 26, 3) := by decide +kernel
theorem d_X_root_24 : decode b_X_root 24 = .ok (.getfield 104, 3) := by decide +kernel
theorem d_X_root_27 : decode b_X_root 27 = .ok (.iload_n 1, 1) := by decide +kernel
theorem d_X_root_28 : decode b_X_root 28 = .ok (.laload, 1) := by decide +kernel
theorem d_X_root_29 : decode b_X_root 29 = .ok (.lreturn, 1) := by decide +kernel
theorem d_X_refresh_0 : decode b_X_refresh 0 = .ok (.iconst 0, 1) := by decide +kernel
theorem d_X_refresh_1 : decode b_X_refresh 1 = .ok (.istore_n 1, 1) := by decide +kernel
theorem d_X_refresh_2 : decode b_X_refresh 2 = .ok (.aload_n 0, 1) := by decide +kernel
theorem d_X_refresh_3 : decode b_X_refresh 3 = .ok (.getfield 26, 3) := by decide +kernel
theorem d_X_refresh_6 : decode b_X_refresh 6 = .ok (.ifnull 25, 3) := by decide +kernel
theorem d_X_refresh_9 : decode b_X_refresh 9 = .ok (.aload_n 0, 1) := by decide +kernel
theorem d_X_refresh_10 : decode b_X_refresh 10 = .ok (.getfield 26, 3) := by decide +kernel
theorem d_X_refresh_13 : decode b_X_refresh 13 = .ok (.getfield 92, 3) := by decide +kernel
theorem d_X_refresh_16 : decode b_X_refresh 16 = .ok (.ifCond .ne 15, 3) := by decide +kernel
theorem d_X_refresh_19 : decode b_X_refresh 19 = .ok (.aload_n 0, 1) := by decide +kernel
theorem d_X_refresh_20 : decode b_X_refresh 20 = .ok (.getfield 22, 3) := by decide +kernel
theorem d_X_refresh_23 : decode b_X_refresh 23 = .ok (.iconst 0, 1) := by decide +kernel
theorem d_X_refresh_24 : decode b_X_refresh 24 = .ok (.aload_n 0, 1) := by decide +kernel
theorem d_X_refresh_25 : decode b_X_refresh 25 = .ok (.getfield 26, 3) := by decide +kernel
theorem d_X_refresh_28 : decode b_X_refresh 28 = .ok (.aastore, 1) := by decide +kernel
theorem d_X_refresh_29 : decode b_X_refresh 29 = .ok (.iconst 1, 1) := by decide +kernel
theorem d_X_refresh_30 : decode b_X_refresh 30 = .ok (.istore_n 1, 1) := by decide +kernel
theorem d_X_refresh_31 : decode b_X_refresh 31 = .ok (.iconst 0, 1) := by decide +kernel
theorem d_X_refresh_32 : decode b_X_refresh 32 = .ok (.istore_n 2, 1) := by decide +kernel
theorem d_X_refresh_33 : decode b_X_refresh 33 = .ok (.iload_n 1, 1) := by decide +kernel
theorem d_X_refresh_34 : decode b_X_refresh 34 = .ok (.ifCond .le 114, 3) := by decide +kernel
theorem d_X_refresh_37 : decode b_X_refresh 37 = .ok (.iload_n 2, 1) := by decide +kernel
theorem d_X_refresh_38 : decode b_X_refresh 38 = .ok (.sipush 2048, 3) := by decide +kernel
theorem d_X_refresh_41 : decode b_X_refresh 41 = .ok (.if_icmp .ge 107, 3) := by decide +kernel
theorem d_X_refresh_44 : decode b_X_refresh 44 = .ok (.aload_n 0, 1) := by decide +kernel
theorem d_X_refresh_45 : decode b_X_refresh 45 = .ok (.getfield 22, 3) := by decide +kernel
theorem d_X_refresh_48 : decode b_X_refresh 48 = .ok (.iload_n 1, 1) := by decide +kernel
theorem d_X_refresh_49 : decode b_X_refresh 49 = .ok (.iconst 1, 1) := by decide +kernel
theorem d_X_refresh_50 : decode b_X_refresh 50 = .ok (.isub, 1) := by decide +kernel
theorem d_X_refresh_51 : decode b_X_refresh 51 = .ok (.aaload, 1) := by decide +kernel
theorem d_X_refresh_52 : decode b_X_refresh 52 = .ok (.astore_n 3, 1) := by decide +kernel
theorem d_X_refresh_53 : decode b_X_refresh 53 = .ok (.aload_n 3, 1) := by decide +kernel
theorem d_X_refresh_54 : decode b_X_refresh 54 = .ok (.instanceof 80, 3) := by decide +kernel
theorem d_X_refresh_57 : decode b_X_refresh 57 = .ok (.ifCond .eq 17, 3) := by decide +kernel
theorem d_X_refresh_60 : decode b_X_refresh 60 = .ok (.aload_n 3, 1) := by decide +kernel
theorem d_X_refresh_61 : decode b_X_refresh 61 = .ok (.checkcast 80, 3) := by decide +kernel
theorem d_X_refresh_64 : decode b_X_refresh 64 = .ok (.astore 5, 2) := by decide +kernel
theorem d_X_refresh_66 : decode b_X_refresh 66 = .ok (.aload 5, 2) := by decide +kernel
theorem d_X_refresh_68 : decode b_X_refresh 68 = .ok (.invokevirtual 159, 3) := by decide +kernel
theorem d_X_refresh_71 : decode b_X_refresh 71 = .ok (.goto 4, 3) := by decide +kernel
theorem d_X_refresh_74 : decode b_X_refresh 74 = .ok (.aconst_null, 1) := by decide +kernel
theorem d_X_refresh_75 : decode b_X_refresh 75 = .ok (.astore 4, 2) := by decide +kernel
theorem d_X_refresh_77 : decode b_X_refresh 77 = .ok (.aload 4, 2) := by decide +kernel
theorem d_X_refresh_79 : decode b_X_refresh 79 = .ok (.ifnull 24, 3) := by decide +kernel
theorem d_X_refresh_82 : decode b_X_refresh 82 = .ok (.iload_n 1, 1) := by decide +kernel
theorem d_X_refresh_83 : decode b_X_refresh 83 = .ok (.sipush 257, 3) := by decide +kernel
theorem d_X_refresh_86 : decode b_X_refresh 86 = .ok (.if_icmp .ge 17, 3) := by decide +kernel
theorem d_X_refresh_89 : decode b_X_refresh 89 = .ok (.aload_n 0, 1) := by decide +kernel
theorem d_X_refresh_90 : decode b_X_refresh 90 = .ok (.getfield 22, 3) := by decide +kernel
theorem d_X_refresh_93 : decode b_X_refresh 93 = .ok (.iload_n 1, 1) := by decide +kernel
theorem d_X_refresh_94 : decode b_X_refresh 94 = .ok (.aload 4, 2) := by decide +kernel
theorem d_X_refresh_96 : decode b_X_refresh 96 = .ok (.aastore, 1) := by decide +kernel
theorem d_X_refresh_97 : decode b_X_refresh 97 = .ok (.iinc 1 1, 3) := by decide +kernel
theorem d_X_refresh_100 : decode b_X_refresh 100 = .ok (.goto 42, 3) := by decide +kernel
theorem d_X_refresh_103 : decode b_X_refresh 103 = .ok (.aload_n 0, 1) := by decide +kernel
theorem d_X_refresh_104 : decode b_X_refresh 104 = .ok (.aload_n 3, 1) := by decide +kernel
theorem d_X_refresh_105 : decode b_X_refresh 105 = .ok (.iload_n 1, 1) := by decide +kernel
theorem d_X_refresh_106 : decode b_X_refresh 106 = .ok (.iconst 1, 1) := by decide +kernel
theorem d_X_refresh_107 : decode b_X_refresh 107 = .ok (.if_icmp .le 19, 3) := by decide +kernel
theorem d_X_refresh_110 : decode b_X_refresh 110 = .ok (.aload_n 0, 1) := by decide +kernel
theorem d_X_refresh_111 : decode b_X_refresh 111 = .ok (.getfield 22, 3) := by decide +kernel
theorem d_X_refresh_114 : decode b_X_refresh 114 = .ok (.iload_n 1, 1) := by decide +kernel
theorem d_X_refresh_115 : decode b_X_refresh 115 = .ok (.iconst 2, 1) := by decide +kernel
theorem d_X_refresh_116 : decode b_X_refresh 116 = .ok (.isub, 1) := by decide +kernel
theorem d_X_refresh_117 : decode b_X_refresh 117 = .ok (.aaload, 1) := by decide +kernel
theorem d_X_refresh_118 : decode b_X_refresh 118 = .ok (.getfield 163, 3) := by decide +kernel
theorem d_X_refresh_121 : decode b_X_refresh 121 = .ok (.iconst 1, 1) := by decide +kernel
theorem d_X_refresh_122 : decode b_X_refresh 122 = .ok (.iadd, 1) := by decide +kernel
theorem d_X_refresh_123 : decode b_X_refresh 123 = .ok (.goto 4, 3) := by decide +kernel
theorem d_X_refresh_126 : decode b_X_refresh 126 = .ok (.iconst 0, 1) := by decide +kernel
theorem d_X_refresh_127 : decode b_X_refresh 127 = .ok (.aload_n 3, 1) := by decide +kernel
theorem d_X_refresh_128 : decode b_X_refresh 128 = .ok (.getfield 104, 3) := by decide +kernel
theorem d_X_refresh_131 : decode b_X_refresh 131 = .ok (.invokevirtual 124, 3) := by decide +kernel
theorem d_X_refresh_134 : decode b_X_refresh 134 = .ok (.aload_n 3, 1) := by decide +kernel
theorem d_X_refresh_135 : decode b_X_refresh 135 = .ok (.iconst 1, 1) := by decide +kernel
theorem d_X_refresh_136 : decode b_X_refresh 136 = .ok (.putfield 92, 3) := by decide +kernel
theorem d_X_refresh_139 : decode b_X_refresh 139 = .ok (.iinc 1 (-1), 3) := by decide +kernel
theorem d_X_refresh_142 : decode b_X_refresh 142 = .ok (.iinc 2 1, 3) := by decide +kernel
theorem d_X_refresh_145 : decode b_X_refresh 145 = .ok (.goto (-112), 3) := by decide +kernel
theorem d_X_refresh_148 : decode b_X_refresh 148 = .ok (.return_, 1) := by decide +kernel
theorem d_X_hashAt_0 : decode b_X_hashAt 0 = .ok (.aload_n 1, 1) := by decide +kernel
theorem d_X_hashAt_1 : decode b_X_hashAt 1 = .ok (.instanceof 59, 3) := by decide +kernel
theorem d_X_hashAt_4 : decode b_X_hashAt 4 = .ok (.ifCond .eq 31, 3) := by decide +kernel
theorem d_X_hashAt_7 : decode b_X_hashAt 7 = .ok (.aload_n 1, 1) := by decide +kernel
theorem d_X_hashAt_8 : decode b_X_hashAt 8 = .ok (.checkcast 59, 3) := by decide +kernel
theorem d_X_hashAt_11 : decode b_X_hashAt 11 = .ok (.astore 4, 2) := by decide +kernel
theorem d_X_hashAt_13 : decode b_X_hashAt 13 = .ok (.aload_n 0, 1) := by decide +kernel
theorem d_X_hashAt_14 : decode b_X_hashAt 14 = .ok (.getfield 16, 3) := by decide +kernel
theorem d_X_hashAt_17 : decode b_X_hashAt 17 = .ok (.iconst 0, 1) := by decide +kernel
theorem d_X_hashAt_18 : decode b_X_hashAt 18 = .ok (.aload 4, 2) := by decide +kernel
theorem d_X_hashAt_20 : decode b_X_hashAt 20 = .ok (.getfield 115, 3) := by decide +kernel
theorem d_X_hashAt_23 : decode b_X_hashAt 23 = .ok (.aload 4, 2) := by decide +kernel
theorem d_X_hashAt_25 : decode b_X_hashAt 25 = .ok (.getfield 64, 3) := by decide +kernel
theorem d_X_hashAt_28 : decode b_X_hashAt 28 = .ok (.aload_n 3, 1) := by decide +kernel
theorem d_X_hashAt_29 : decode b_X_hashAt 29 = .ok (.invokevirtual 164, 3) := by decide +kernel
theorem d_X_hashAt_32 : decode b_X_hashAt 32 = .ok (.goto 107, 3) := by decide +kernel
theorem d_X_hashAt_35 : decode b_X_hashAt 35 = .ok (.aload_n 1, 1) := by decide +kernel
theorem d_X_hashAt_36 : decode b_X_hashAt 36 = .ok (.instanceof 80, 3) := by decide +kernel
theorem d_X_hashAt_39 : decode b_X_hashAt 39 = .ok (.ifCond .eq 100, 3) := by decide +kernel
theorem d_X_hashAt_42 : decode b_X_hashAt 42 = .ok (.aload_n 1, 1) := by decide +kernel
theorem d_X_hashAt_43 : decode b_X_hashAt 43 = .ok (.checkcast 80, 3) := by decide +kernel
theorem d_X_hashAt_46 : decode b_X_hashAt 46 = .ok (.astore 5, 2) := by decide +kernel
theorem d_X_hashAt_48 : decode b_X_hashAt 48 = .ok (.aload_n 0, 1) := by decide +kernel
theorem d_X_hashAt_49 : decode b_X_hashAt 49 = .ok (.getfield 16, 3) := by decide +kernel
theorem d_X_hashAt_52 : decode b_X_hashAt 52 = .ok (.iconst 1, 1) := by decide +kernel
theorem d_X_hashAt_53 : decode b_X_hashAt 53 = .ok (.aload 5, 2) := by decide +kernel
theorem d_X_hashAt_55 : decode b_X_hashAt 55 = .ok (.getfield 168, 3) := by decide +kernel
theorem d_X_hashAt_58 : decode b_X_hashAt 58 = .ok (.getfield 104, 3) := by decide +kernel
theorem d_X_hashAt_61 : decode b_X_hashAt 61 = .ok (.aload 5, 2) := by decide +kernel
theorem d_X_hashAt_63 : decode b_X_hashAt 63 = .ok (.getfield 171, 3) := by decide +kernel
theorem d_X_hashAt_66 : decode b_X_hashAt 66 = .ok (.getfield 104, 3) := by decide +kernel
theorem d_X_hashAt_69 : decode b_X_hashAt 69 = .ok (.aload_n 3, 1) := by decide +kernel
theorem d_X_hashAt_70 : decode b_X_hashAt 70 = .ok (.invokevirtual 164, 3) := by decide +kernel
theorem d_X_hashAt_73 : decode b_X_hashAt 73 = .ok (.aload 5, 2) := by decide +kernel
theorem d_X_hashAt_75 : decode b_X_hashAt 75 = .ok (.getfield 79, 3) := by decide +kernel
theorem d_X_hashAt_78 : decode b_X_hashAt 78 = .ok (.iconst 1, 1) := by decide +kernel
theorem d_X_hashAt_79 : decode b_X_hashAt 79 = .ok (.isub, 1) := by decide +kernel
theorem d_X_hashAt_80 : decode b_X_hashAt 80 = .ok (.istore 6, 2) := by decide +kernel
theorem d_X_hashAt_82 : decode b_X_hashAt 82 = .ok (.iload 6, 2) := by decide +kernel
theorem d_X_hashAt_84 : decode b_X_hashAt 84 = .ok (.iload_n 2, 1) := by decide +kernel
theorem d_X_hashAt_85 : decode b_X_hashAt 85 = .ok (.if_icmp .lt 54, 3) := by decide +kernel
theorem d_X_hashAt_88 : decode b_X_hashAt 88 = .ok (.aload 5, 2) := by decide +kernel
theorem d_X_hashAt_90 : decode b_X_hashAt 90 = .ok (.getfield 174, 3) := by decide +kernel
theorem d_X_hashAt_93 : decode b_X_hashAt 93 = .ok (.iload 6, 2) := by decide +kernel
theorem d_X_hashAt_95 : decode b_X_hashAt 95 = .ok (.invokestatic 84, 3) := by decide +kernel
theorem d_X_hashAt_98 : decode b_X_hashAt 98 = .ok (.istore 7, 2) := by decide +kernel
theorem d_X_hashAt_100 : decode b_X_hashAt 100 = .ok (.aload_n 0, 1) := by decide +kernel
theorem d_X_hashAt_101 : decode b_X_hashAt 101 = .ok (.getfield 16, 3) := by decide +kernel
theorem d_X_hashAt_104 : decode b_X_hashAt 104 = .ok (.iconst 1, 1) := by decide +kernel
theorem d_X_hashAt_105 : decode b_X_hashAt 105 = .ok (.iload 7, 2) := by decide +kernel
theorem d_X_hashAt_107 : decode b_X_hashAt 107 = .ok (.ifCond .eq 9, 3) := by decide +kernel
theorem d_X_hashAt_110 : decode b_X_hashAt 110 = .ok (.getstatic 175, 3) := by decide +kernel
theorem d_X_hashAt_113 : decode b_X_hashAt 113 = .ok (.goto 4, 3) := by decide +kernel
theorem d_X_hashAt_116 : decode b_X_hashAt 116 = .ok (.aload_n 3, 1) := by decide +kernel
theorem d_X_hashAt_117 : decode b_X_hashAt 117 = .ok (.iload 7, 2) := by decide +kernel
theorem d_X_hashAt_119 : decode b_X_hashAt 119 = .ok (.ifCond .eq 7, 3) := by decide +kernel
theorem d_X_hashAt_122 : decode b_X_hashAt 122 = .ok (.aload_n 3, 1) := by decide +kernel
theorem d_X_hashAt_123 : decode b_X_hashAt 123 = .ok (.goto 6, 3) := by decide +kernel
theorem d_X_hashAt_126 : decode b_X_hashAt 126 = .ok (.getstatic 175, 3) := by decide +kernel
theorem d_X_hashAt_129 : decode b_X_hashAt 129 = .ok (.aload_n 3, 1) := by decide +kernel
theorem d_X_hashAt_130 : decode b_X_hashAt 130 = .ok (.invokevirtual 164, 3) := by decide +kernel
theorem d_X_hashAt_133 : decode b_X_hashAt 133 = .ok (.iinc 6 (-1), 3) := by decide +kernel
theorem d_X_hashAt_136 : decode b_X_hashAt 136 = .ok (.goto (-54), 3) := by decide +kernel
theorem d_X_hashAt_139 : decode b_X_hashAt 139 = .ok (.return_, 1) := by decide +kernel
theorem d_X_keepSibling_0 : decode b_X_keepSibling 0 = .ok (.aload_n 2, 1) := by decide +kernel
theorem d_X_keepSibling_1 : decode b_X_keepSibling 1 = .ok (.iconst 0, 1) := by decide +kernel
theorem d_X_keepSibling_2 : decode b_X_keepSibling 2 = .ok (.aload_n 0, 1) := by decide +kernel
theorem d_X_keepSibling_3 : decode b_X_keepSibling 3 = .ok (.getfield 34, 3) := by decide +kernel
theorem d_X_keepSibling_6 : decode b_X_keepSibling 6 = .ok (.iload_n 1, 1) := by decide +kernel
theorem d_X_keepSibling_7 : decode b_X_keepSibling 7 = .ok (.iconst 4, 1) := by decide +kernel
theorem d_X_keepSibling_8 : decode b_X_keepSibling 8 = .ok (.imul, 1) := by decide +kernel
theorem d_X_keepSibling_9 : decode b_X_keepSibling 9 = .ok (.iconst 4, 1) := by decide +kernel
theorem d_X_keepSibling_10 : decode b_X_keepSibling 10 = .ok (.invokestatic 178, 3) := by decide +kernel
theorem d_X_keepSibling_13 : decode b_X_keepSibling 13 = .ok (.return_, 1) := by decide +kernel
theorem d_X_keepEnd_0 : decode b_X_keepEnd 0 = .ok (.aload_n 1, 1) := by decide +kernel
theorem d_X_keepEnd_1 : decode b_X_keepEnd 1 = .ok (.getfield 115, 3) := by decide +kernel
theorem d_X_keepEnd_4 : decode b_X_keepEnd 4 = .ok (.iconst 0, 1) := by decide +kernel
theorem d_X_keepEnd_5 : decode b_X_keepEnd 5 = .ok (.aload_n 0, 1) := by decide +kernel
theorem d_X_keepEnd_6 : decode b_X_keepEnd 6 = .ok (.getfield 40, 3) := by decide +kernel
theorem d_X_keepEnd_9 : decode b_X_keepEnd 9 = .ok (.iconst 0, 1) := by decide +kernel
theorem d_X_keepEnd_10 : decode b_X_keepEnd 10 = .ok (.iconst 4, 1) := by decide +kernel
theorem d_X_keepEnd_11 : decode b_X_keepEnd 11 = .ok (.invokestatic 178, 3) := by decide +kernel
theorem d_X_keepEnd_14 : decode b_X_keepEnd 14 = .ok (.aload_n 1, 1) := by decide +kernel
theorem d_X_keepEnd_15 : decode b_X_keepEnd 15 = .ok (.getfield 64, 3) := by decide +kernel
theorem d_X_keepEnd_18 : decode b_X_keepEnd 18 = .ok (.iconst 0, 1) := by decide +kernel
theorem d_X_keepEnd_19 : decode b_X_keepEnd 19 = .ok (.aload_n 0, 1) := by decide +kernel
theorem d_X_keepEnd_20 : decode b_X_keepEnd 20 = .ok (.getfield 40, 3) := by decide +kernel
theorem d_X_keepEnd_23 : decode b_X_keepEnd 23 = .ok (.iconst 4, 1) := by decide +kernel
theorem d_X_keepEnd_24 : decode b_X_keepEnd 24 = .ok (.iconst 4, 1) := by decide +kernel
theorem d_X_keepEnd_25 : decode b_X_keepEnd 25 = .ok (.invokestatic 178, 3) := by decide +kernel
theorem d_X_keepEnd_28 : decode b_X_keepEnd 28 = .ok (.return_, 1) := by decide +kernel
theorem d_X_sibling_0 : decode b_X_sibling 0 = .ok (.iload_n 1, 1) := by decide +kernel
theorem d_X_sibling_1 : decode b_X_sibling 1 = .ok (.ifCond .lt 30, 3) := by decide +kernel
theorem d_X_sibling_4 : decode b_X_sibling 4 = .ok (.iload_n 1, 1) := by decide +kernel
theorem d_X_sibling_5 : decode b_X_sibling 5 = .ok (.sipush 256, 3) := by decide +kernel
theorem d_X_sibling_8 : decode b_X_sibling 8 = .ok (.if_icmp .ge 23, 3) := by decide +kernel
theorem d_X_sibling_11 : decode b_X_sibling 11 = .ok (.iload_n 2, 1) := by decide +kernel
theorem d_X_sibling_12 : decode b_X_sibling 12 = .ok (.invokestatic 97, 3) := by decide +kernel
theorem d_X_sibling_15 : decode b_X_sibling 15 = .ok (.ifCond .eq 16, 3) := by decide +kernel
theorem d_X_sibling_18 : decode b_X_sibling 18 = .ok (.aload_n 0, 1) := by decide +kernel
theorem d_X_sibling_19 : decode b_X_sibling 19 = .ok (.getfield 34, 3) := by decide +kernel
theorem d_X_sibling_22 : decode b_X_sibling 22 = .ok (.iload_n 1, 1) := by decide +kernel
theorem d_X_sibling_23 : decode b_X_sibling 23 = .ok (.iconst 4, 1) := by decide +kernel
theorem d_X_sibling_24 : decode b_X_sibling 24 = .ok (.imul, 1) := by decide +kernel
theorem d_X_sibling_25 : decode b_X_sibling 25 = .ok (.iload_n 2, 1) := by decide +kernel
theorem d_X_sibling_26 : decode b_X_sibling 26 = .ok (.iadd, 1) := by decide +kernel
theorem d_X_sibling_27 : decode b_X_sibling 27 = .ok (.laload, 1) := by decide +kernel
theorem d_X_sibling_28 : decode b_X_sibling 28 = .ok (.goto 4, 3) := by decide +kernel
theorem d_X_sibling_31 : decode b_X_sibling 31 = .ok (.lconst 0, 1) := by decide +kernel
theorem d_X_sibling_32 : decode b_X_sibling 32 = .ok (.lreturn, 1) := by decide +kernel
theorem d_X_ending_0 : decode b_X_ending 0 = .ok (.aload_n 0, 1) := by decide +kernel
theorem d_X_ending_1 : decode b_X_ending 1 = .ok (.getfield 43, 3) := by decide +kernel
theorem d_X_ending_4 : decode b_X_ending 4 = .ok (.ireturn, 1) := by decide +kernel
theorem d_X_endNumber_0 : decode b_X_endNumber 0 = .ok (.iload_n 1, 1) := by decide +kernel
theorem d_X_endNumber_1 : decode b_X_endNumber 1 = .ok (.ifCond .lt 28, 3) := by decide +kernel
theorem d_X_endNumber_4 : decode b_X_endNumber 4 = .ok (.iload_n 1, 1) := by decide +kernel
theorem d_X_endNumber_5 : decode b_X_endNumber 5 = .ok (.iconst 2, 1) := by decide +kernel
theorem d_X_endNumber_6 : decode b_X_endNumber 6 = .ok (.if_icmp .ge 23, 3) := by decide +kernel
theorem d_X_endNumber_9 : decode b_X_endNumber 9 = .ok (.iload_n 2, 1) := by decide +kernel
theorem d_X_endNumber_10 : decode b_X_endNumber 10 = .ok (.invokestatic 97, 3) := by decide +kernel
theorem d_X_endNumber_13 : decode b_X_endNumber 13 = .ok (.ifCond .eq 16, 3) := by decide +kernel
theorem d_X_endNumber_16 : decode b_X_endNumber 16 = .ok (.aload_n 0, 1) := by decide +kernel
theorem d_X_endNumber_17 : decode b_X_endNumber 17 = .ok (.getfield 40, 3) := by decide +kernel
theorem d_X_endNumber_20 : decode b_X_endNumber 20 = .ok (.iload_n 1, 1) := by decide +kernel
theorem d_X_endNumber_21 : decode b_X_endNumber 21 = .ok (.iconst 4, 1) := by decide +kernel
theorem d_X_endNumber_22 : decode b_X_endNumber 22 = .ok (.imul, 1) := by decide +kernel
theorem d_X_endNumber_23 : decode b_X_endNumber 23 = .ok (.iload_n 2, 1) := by decide +kernel
theorem d_X_endNumber_24 : decode b_X_endNumber 24 = .ok (.iadd, 1) := by decide +kernel
theorem d_X_endNumber_25 : decode b_X_endNumber 25 = .ok (.laload, 1) := by decide +kernel
theorem d_X_endNumber_26 : decode b_X_endNumber 26 = .ok (.goto 4, 3) := by decide +kernel
theorem d_X_endNumber_29 : decode b_X_endNumber 29 = .ok (.lconst 0, 1) := by decide +kernel
theorem d_X_endNumber_30 : decode b_X_endNumber 30 = .ok (.lreturn, 1) := by decide +kernel
theorem d_X_digest_0 : decode b_X_digest 0 = .ok (.iload_n 3, 1) := by decide +kernel
theorem d_X_digest_1 : decode b_X_digest 1 = .ok (.ifCond .lt 30, 3) := by decide +kernel
theorem d_X_digest_4 : decode b_X_digest 4 = .ok (.iload_n 3, 1) := by decide +kernel
theorem d_X_digest_5 : decode b_X_digest 5 = .ok (.bipush 8, 2) := by decide +kernel
theorem d_X_digest_7 : decode b_X_digest 7 = .ok (.if_icmp .gt 24, 3) := by decide +kernel
theorem d_X_digest_10 : decode b_X_digest 10 = .ok (.iload 4, 2) := by decide +kernel
theorem d_X_digest_12 : decode b_X_digest 12 = .ok (.ifCond .lt 19, 3) := by decide +kernel
theorem d_X_digest_15 : decode b_X_digest 15 = .ok (.iload 4, 2) := by decide +kernel
theorem d_X_digest_17 : decode b_X_digest 17 = .ok (.sipush 500, 3) := by decide +kernel
theorem d_X_digest_20 : decode b_X_digest 20 = .ok (.if_icmp .gt 11, 3) := by decide +kernel
theorem d_X_digest_23 : decode b_X_digest 23 = .ok (.iload 5, 2) := by decide +kernel
theorem d_X_digest_25 : decode b_X_digest 25 = .ok (.invokestatic 97, 3) := by decide +kernel
theorem d_X_digest_28 : decode b_X_digest 28 = .ok (.ifCond .ne 5, 3) := by decide +kernel
theorem d_X_digest_31 : decode b_X_digest 31 = .ok (.lconst 0, 1) := by decide +kernel
theorem d_X_digest_32 : decode b_X_digest 32 = .ok (.lreturn, 1) := by decide +kernel
theorem d_X_digest_33 : decode b_X_digest 33 = .ok (.aload_n 0, 1) := by decide +kernel
theorem d_X_digest_34 : decode b_X_digest 34 = .ok (.getfield 16, 3) := by decide +kernel
theorem d_X_digest_37 : decode b_X_digest 37 = .ok (.invokevirtual 131, 3) := by decide +kernel
theorem d_X_digest_40 : decode b_X_digest 40 = .ok (.iconst 0, 1) := by decide +kernel
theorem d_X_digest_41 : decode b_X_digest 41 = .ok (.istore 6, 2) := by decide +kernel
theorem d_X_digest_43 : decode b_X_digest 43 = .ok (.iload 6, 2) := by decide +kernel
theorem d_X_digest_45 : decode b_X_digest 45 = .ok (.iload 4, 2) := by decide +kernel
theorem d_X_digest_47 : decode b_X_digest 47 = .ok (.if_icmp .ge 18, 3) := by decide +kernel
theorem d_X_digest_50 : decode b_X_digest 50 = .ok (.aload_n 0, 1) := by decide +kernel
theorem d_X_digest_51 : decode b_X_digest 51 = .ok (.getfield 16, 3) := by decide +kernel
theorem d_X_digest_54 : decode b_X_digest 54 = .ok (.lload_n 1, 1) := by decide +kernel
theorem d_X_digest_55 : decode b_X_digest 55 = .ok (.iload_n 3, 1) := by decide +kernel
theorem d_X_digest_56 : decode b_X_digest 56 = .ok (.invokevirtual 134, 3) := by decide +kernel
theorem d_X_digest_59 : decode b_X_digest 59 = .ok (.iinc 6 1, 3) := by decide +kernel
theorem d_X_digest_62 : decode b_X_digest 62 = .ok (.goto (-19), 3) := by decide +kernel
theorem d_X_digest_65 : decode b_X_digest 65 = .ok (.aload_n 0, 1) := by decide +kernel
theorem d_X_digest_66 : decode b_X_digest 66 = .ok (.getfield 16, 3) := by decide +kernel
theorem d_X_digest_69 : decode b_X_digest 69 = .ok (.invokevirtual 138, 3) := by decide +kernel
theorem d_X_digest_72 : decode b_X_digest 72 = .ok (.aload_n 0, 1) := by decide +kernel
theorem d_X_digest_73 : decode b_X_digest 73 = .ok (.getfield 16, 3) := by decide +kernel
theorem d_X_digest_76 : decode b_X_digest 76 = .ok (.iload 5, 2) := by decide +kernel
theorem d_X_digest_78 : decode b_X_digest 78 = .ok (.invokevirtual 141, 3) := by decide +kernel
theorem d_X_digest_81 : decode b_X_digest 81 = .ok (.lreturn, 1) := by decide +kernel
end
section
theorem d_X_prove_0 : decode b_X_prove 0 = .ok (.aload_n 0, 1) := by decide +kernel
theorem d_X_prove_1 : decode b_X_prove 1 = .ok (.getfield 34, 3) := by decide +kernel
theorem d_X_prove_4 : decode b_X_prove 4 = .ok (.lconst 0, 1) := by decide +kernel
theorem d_X_prove_5 : decode b_X_prove 5 = .ok (.invokestatic 107, 3) := by decide +kernel
theorem d_X_prove_8 : decode b_X_prove 8 = .ok (.aload_n 0, 1) := by decide +kernel
theorem d_X_prove_9 : decode b_X_prove 9 = .ok (.getfield 40, 3) := by decide +kernel
theorem d_X_prove_12 : decode b_X_prove 12 = .ok (.lconst 0, 1) := by decide +kernel
theorem d_X_prove_13 : decode b_X_prove 13 = .ok (.invokestatic 107, 3) := by decide +kernel
theorem d_X_prove_16 : decode b_X_prove 16 = .ok (.aload_n 0, 1) := by decide +kernel
theorem d_X_prove_17 : decode b_X_prove 17 = .ok (.iconst 0, 1) := by decide +kernel
theorem d_X_prove_18 : decode b_X_prove 18 = .ok (.putfield 43, 3) := by decide +kernel
theorem d_X_prove_21 : decode b_X_prove 21 = .ok (.aload_n 0, 1) := by decide +kernel
theorem d_X_prove_22 : decode b_X_prove 22 = .ok (.invokevirtual 112, 3) := by decide +kernel
theorem d_X_prove_25 : decode b_X_prove 25 = .ok (.astore_n 1, 1) := by decide +kernel
theorem d_X_prove_26 : decode b_X_prove 26 = .ok (.aload_n 1, 1) := by decide +kernel
theorem d_X_prove_27 : decode b_X_prove 27 = .ok (.ifnonnull 5, 3) := by decide +kernel
theorem d_X_prove_30 : decode b_X_prove 30 = .ok (.iconst 0, 1) := by decide +kernel
theorem d_X_prove_31 : decode b_X_prove 31 = .ok (.ireturn, 1) := by decide +kernel
theorem d_X_prove_32 : decode b_X_prove 32 = .ok (.aload_n 0, 1) := by decide +kernel
theorem d_X_prove_33 : decode b_X_prove 33 = .ok (.invokevirtual 101, 3) := by decide +kernel
theorem d_X_prove_36 : decode b_X_prove 36 = .ok (.aload_n 0, 1) := by decide +kernel
theorem d_X_prove_37 : decode b_X_prove 37 = .ok (.getfield 9, 3) := by decide +kernel
theorem d_X_prove_40 : decode b_X_prove 40 = .ok (.aload_n 1, 1) := by decide +kernel
theorem d_X_prove_41 : decode b_X_prove 41 = .ok (.getfield 115, 3) := by decide +kernel
theorem d_X_prove_44 : decode b_X_prove 44 = .ok (.invokestatic 116, 3) := by decide +kernel
theorem d_X_prove_47 : decode b_X_prove 47 = .ok (.istore_n 2, 1) := by decide +kernel
theorem d_X_prove_48 : decode b_X_prove 48 = .ok (.iconst 0, 1) := by decide +kernel
theorem d_X_prove_49 : decode b_X_prove 49 = .ok (.istore_n 3, 1) := by decide +kernel
theorem d_X_prove_50 : decode b_X_prove 50 = .ok (.aload_n 0, 1) := by decide +kernel
theorem d_X_prove_51 : decode b_X_prove 51 = .ok (.getfield 26, 3) := by decide +kernel
theorem d_X_prove_54 : decode b_X_prove 54 = .ok (.astore 4, 2) := by decide +kernel
theorem d_X_prove_56 : decode b_X_prove 56 = .ok (.aload 4, 2) := by decide +kernel
theorem d_X_prove_58 : decode b_X_prove 58 = .ok (.instanceof 80, 3) := by decide +kernel
theorem d_X_prove_61 : decode b_X_prove 61 = .ok (.ifCond .eq 80, 3) := by decide +kernel
theorem d_X_prove_64 : decode b_X_prove 64 = .ok (.aload 4, 2) := by decide +kernel
theorem d_X_prove_66 : decode b_X_prove 66 = .ok (.checkcast 80, 3) := by decide +kernel
theorem d_X_prove_69 : decode b_X_prove 69 = .ok (.astore 5, 2) := by decide +kernel
theorem d_X_prove_71 : decode b_X_prove 71 = .ok (.aload 5, 2) := by decide +kernel
theorem d_X_prove_73 : decode b_X_prove 73 = .ok (.getfield 79, 3) := by decide +kernel
theorem d_X_prove_76 : decode b_X_prove 76 = .ok (.iload_n 2, 1) := by decide +kernel
theorem d_X_prove_77 : decode b_X_prove 77 = .ok (.if_icmp .ge 64, 3) := by decide +kernel
theorem d_X_prove_80 : decode b_X_prove 80 = .ok (.aload_n 0, 1) := by decide +kernel
theorem d_X_prove_81 : decode b_X_prove 81 = .ok (.getfield 9, 3) := by decide +kernel
theorem d_X_prove_84 : decode b_X_prove 84 = .ok (.aload 5, 2) := by decide +kernel
theorem d_X_prove_86 : decode b_X_prove 86 = .ok (.getfield 79, 3) := by decide +kernel
theorem d_X_prove_89 : decode b_X_prove 89 = .ok (.invokestatic 84, 3) := by decide +kernel
theorem d_X_prove_92 : decode b_X_prove 92 = .ok (.istore 6, 2) := by decide +kernel
theorem d_X_prove_94 : decode b_X_prove 94 = .ok (.aload_n 0, 1) := by decide +kernel
theorem d_X_prove_95 : decode b_X_prove 95 = .ok (.aload 5, 2) := by decide +kernel
theorem d_X_prove_97 : decode b_X_prove 97 = .ok (.getfield 79, 3) := by decide +kernel
theorem d_X_prove_100 : decode b_X_prove 100 = .ok (.aload 5, 2) := by decide +kernel
theorem d_X_prove_102 : decode b_X_prove 102 = .ok (.iload 6, 2) := by decide +kernel
theorem d_X_prove_104 : decode b_X_prove 104 = .ok (.ifCond .ne 7, 3) := by decide +kernel
theorem d_X_prove_107 : decode b_X_prove 107 = .ok (.iconst 1, 1) := by decide +kernel
theorem d_X_prove_108 : decode b_X_prove 108 = .ok (.goto 4, 3) := by decide +kernel
theorem d_X_prove_111 : decode b_X_prove 111 = .ok (.iconst 0, 1) := by decide +kernel
theorem d_X_prove_112 : decode b_X_prove 112 = .ok (.invokevirtual 88, 3) := by decide +kernel
theorem d_X_prove_115 : decode b_X_prove 115 = .ok (.getfield 104, 3) := by decide +kernel
theorem d_X_prove_118 : decode b_X_prove 118 = .ok (.invokevirtual 120, 3) := by decide +kernel
theorem d_X_prove_121 : decode b_X_prove 121 = .ok (.aload 5, 2) := by decide +kernel
theorem d_X_prove_123 : decode b_X_prove 123 = .ok (.getfield 79, 3) := by decide +kernel
theorem d_X_prove_126 : decode b_X_prove 126 = .ok (.iconst 1, 1) := by decide +kernel
theorem d_X_prove_127 : decode b_X_prove 127 = .ok (.iadd, 1) := by decide +kernel
theorem d_X_prove_128 : decode b_X_prove 128 = .ok (.istore_n 3, 1) := by decide +kernel
theorem d_X_prove_129 : decode b_X_prove 129 = .ok (.aload 5, 2) := by decide +kernel
theorem d_X_prove_131 : decode b_X_prove 131 = .ok (.iload 6, 2) := by decide +kernel
theorem d_X_prove_133 : decode b_X_prove 133 = .ok (.invokevirtual 88, 3) := by decide +kernel
theorem d_X_prove_136 : decode b_X_prove 136 = .ok (.astore 4, 2) := by decide +kernel
theorem d_X_prove_138 : decode b_X_prove 138 = .ok (.goto (-82), 3) := by decide +kernel
theorem d_X_prove_141 : decode b_X_prove 141 = .ok (.aload 4, 2) := by decide +kernel
theorem d_X_prove_143 : decode b_X_prove 143 = .ok (.instanceof 80, 3) := by decide +kernel
theorem d_X_prove_146 : decode b_X_prove 146 = .ok (.ifCond .eq 36, 3) := by decide +kernel
theorem d_X_prove_149 : decode b_X_prove 149 = .ok (.aload 4, 2) := by decide +kernel
theorem d_X_prove_151 : decode b_X_prove 151 = .ok (.checkcast 80, 3) := by decide +kernel
theorem d_X_prove_154 : decode b_X_prove 154 = .ok (.astore 5, 2) := by decide +kernel
theorem d_X_prove_156 : decode b_X_prove 156 = .ok (.aload_n 0, 1) := by decide +kernel
theorem d_X_prove_157 : decode b_X_prove 157 = .ok (.aload 5, 2) := by decide +kernel
theorem d_X_prove_159 : decode b_X_prove 159 = .ok (.iload_n 2, 1) := by decide +kernel
theorem d_X_prove_160 : decode b_X_prove 160 = .ok (.iconst 1, 1) := by decide +kernel
theorem d_X_prove_161 : decode b_X_prove 161 = .ok (.iadd, 1) := by decide +kernel
theorem d_X_prove_162 : decode b_X_prove 162 = .ok (.aload_n 0, 1) := by decide +kernel
theorem d_X_prove_163 : decode b_X_prove 163 = .ok (.getfield 37, 3) := by decide +kernel
theorem d_X_prove_166 : decode b_X_prove 166 = .ok (.invokevirtual 124, 3) := by decide +kernel
theorem d_X_prove_169 : decode b_X_prove 169 = .ok (.aload_n 0, 1) := by decide +kernel
theorem d_X_prove_170 : decode b_X_prove 170 = .ok (.iload_n 2, 1) := by decide +kernel
theorem d_X_prove_171 : decode b_X_prove 171 = .ok (.aload_n 0, 1) := by decide +kernel
theorem d_X_prove_172 : decode b_X_prove 172 = .ok (.getfield 37, 3) := by decide +kernel
theorem d_X_prove_175 : decode b_X_prove 175 = .ok (.invokevirtual 120, 3) := by decide +kernel
theorem d_X_prove_178 : decode b_X_prove 178 = .ok (.iload_n 2, 1) := by decide +kernel
theorem d_X_prove_179 : decode b_X_prove 179 = .ok (.iconst 1, 1) := by decide +kernel
theorem d_X_prove_180 : decode b_X_prove 180 = .ok (.iadd, 1) := by decide +kernel
theorem d_X_prove_181 : decode b_X_prove 181 = .ok (.ireturn, 1) := by decide +kernel
theorem d_X_prove_182 : decode b_X_prove 182 = .ok (.aload_n 0, 1) := by decide +kernel
theorem d_X_prove_183 : decode b_X_prove 183 = .ok (.aload_n 1, 1) := by decide +kernel
theorem d_X_prove_184 : decode b_X_prove 184 = .ok (.invokevirtual 128, 3) := by decide +kernel
theorem d_X_prove_187 : decode b_X_prove 187 = .ok (.aload_n 0, 1) := by decide +kernel
theorem d_X_prove_188 : decode b_X_prove 188 = .ok (.iload_n 2, 1) := by decide +kernel
theorem d_X_prove_189 : decode b_X_prove 189 = .ok (.sipush 256, 3) := by decide +kernel
theorem d_X_prove_192 : decode b_X_prove 192 = .ok (.if_icmp .ne 7, 3) := by decide +kernel
theorem d_X_prove_195 : decode b_X_prove 195 = .ok (.iconst 1, 1) := by decide +kernel
theorem d_X_prove_196 : decode b_X_prove 196 = .ok (.goto 4, 3) := by decide +kernel
theorem d_X_prove_199 : decode b_X_prove 199 = .ok (.iconst 2, 1) := by decide +kernel
theorem d_X_prove_200 : decode b_X_prove 200 = .ok (.putfield 43, 3) := by decide +kernel
theorem d_X_prove_203 : decode b_X_prove 203 = .ok (.iload_n 3, 1) := by decide +kernel
theorem d_X_prove_204 : decode b_X_prove 204 = .ok (.ireturn, 1) := by decide +kernel
end
section
/-! The world as one pool: a list of addresses and what stands at each; one fact HW carries all that a method knows of it. -/
abbrev ht_W : Type := List Nat × (Nat → va_E)
/-- classes and slots; the heap's size at the law's start; the array classes; the static tables' addresses -/
abbrev ht_G : Type := va_G × Nat × (Nat → ClassId) × (Nat → Nat)
def ht_A (g : ht_G) : Nat → Prop := fun q => g.2.1 ≤ q
abbrev ht_o (ci : Nat) (fs : List Value) : va_E := .inr (ci, fs)
abbrev ht_ai (g : ht_G) (n : Nat) (f : Nat → Int32) : va_E := .inl (g.2.2.1 0, n, .inl f)
abbrev ht_al (g : ht_G) (n : Nat) (f : Nat → Int64) : va_E := .inl (g.2.2.1 1, n, .inr (.inl f))
abbrev ht_ab (g : ht_G) (n : Nat) (f : Nat → Int32) : va_E := .inl (g.2.2.1 3, n, .inl f)
abbrev ht_aq (g : ht_G) (n : Nat) (f : Nat → Option Nat) : va_E := .inl (g.2.2.1 2, n, .inr (.inr (.inr (.inr f))))
def ht_at (w : ht_W) (a : Nat) (e : va_E) : Prop := a ∈ w.1 ∧ w.2 a = e
def ht_up (w : ht_W) (a : Nat) (e : va_E) : ht_W := (w.1, va_up w.2 a e)
def ht_nw (w : ht_W) (a : Nat) (e : va_E) : ht_W := (w.1 ++ [a], va_up w.2 a e)
theorem ht_at_self {w : ht_W} {a : Nat} {e0 e : va_E} (h : ht_at w a e0) : ht_at (ht_up w a e) a e := ⟨h.1, va_up_self _ _ _⟩
theorem ht_at_ne {w : ht_W} {a b : Nat} {e e' : va_E} (h : ht_at w b e') (hn : b ≠ a) : ht_at (ht_up w a e) b e' := ⟨h.1, (va_up_ne _ _ hn).trans h.2⟩
theorem ht_at_new {w : ht_W} {a : Nat} {e : va_E} : ht_at (ht_nw w a e) a e := ⟨List.mem_append_right _ (List.mem_singleton.mpr rfl), va_up_self _ _ _⟩
theorem ht_at_old {w : ht_W} {a b : Nat} {e e' : va_E} (h : ht_at w b e') (hn : a ∉ w.1) : ht_at (ht_nw w a e) b e' := ⟨List.mem_append_left _ h.1, (va_up_ne w.2 e (k := a) (j := b) (fun z => hn (by rw [← z]; exact h.1))).trans h.2⟩
theorem ht_up_up {w : ht_W} {a : Nat} {e e' : va_E} : ht_up (ht_up w a e) a e' = ht_up w a e' := by
  simp only [ht_up]; rw [bx_uu]
theorem ht_up_comm {w : ht_W} {a b : Nat} {e e' : va_E} (h : a ≠ b) : ht_up (ht_up w a e) b e' = ht_up (ht_up w b e') a e := by
  simp only [ht_up, Prod.mk.injEq, true_and]
  funext j
  unfold va_up
  by_cases h1 : j = b
  · subst h1
    rw [if_pos rfl, if_neg (fun q => h q.symm), if_pos rfl]
  · rw [if_neg h1]
    by_cases h2 : j = a
    · subst h2; rw [if_pos rfl, if_pos rfl]
    · rw [if_neg h2, if_neg h2, if_neg h1]
theorem ht_up_id {w : ht_W} {a : Nat} {e : va_E} (h : ht_at w a e) : ht_up w a e = w := by
  obtain ⟨L, f⟩ := w
  simp only [ht_up, Prod.mk.injEq, true_and]
  funext j
  unfold va_up
  by_cases h1 : j = a
  · subst h1; rw [if_pos rfl]; exact h.2.symm
  · rw [if_neg h1]
theorem ht_ne {w : ht_W} {a b : Nat} {e e' : va_E} (ha : ht_at w a e) (hb : ht_at w b e') (h : e ≠ e') : a ≠ b := fun q => h (by rw [← ha.2, ← hb.2, q])
def ht_ty (g : ht_G) : List (ClassId × FieldType) := [(g.2.2.1 0, .int), (g.2.2.1 1, .long), (g.2.2.1 2, .object "HashTree$Node"), (g.2.2.1 3, .byte)]
/-- the static tables that nobody writes -/
def ht_tab (ty : FieldType) (C n d : String) (t N : Nat) (f : Nat → Value) (A : Nat → Prop) (U : State) (H : Heap) : Prop := va_Z C n d (.ref t) A U H ∧ va_T ty t N f A U H
theorem ht_tab.moved {ty : FieldType} {C n d : String} {t N : Nat} {f : Nat → Value} {A : Nat → Prop} {u U : State} {H : Heap} (hvm : u.vm.Alike U.vm) (h : ht_tab ty C n d t N f A u H) : ht_tab ty C n d t N f A U H := ⟨h.1.moved hvm, h.2.moved hvm⟩
theorem ht_tab.kept {ty : FieldType} {C n d : String} {t N : Nat} {f : Nat → Value} {A : Nat → Prop} {U : State} {H H1 : Heap} (h : ht_tab ty C n d t N f A U H) (hq : ∀ a : Nat, a < H.size → ¬ A a → H1[a]? = H[a]?) : ht_tab ty C n d t N f A U H1 := ⟨h.1.kept hq, h.2.kept hq⟩
/-- k, and the first words, as the document has them -/
def ht_k64 : List Int32 := [1116352408, 1899447441, -1245643825, -373957723, 961987163, 1508970993, -1841331548, -1424204075, -670586216, 310598401, 607225278, 1426881987, 1925078388, -2132889090, -1680079193, -1046744716, -459576895, -272742522, 264347078, 604807628, 770255983, 1249150122, 1555081692, 1996064986, -1740746414, -1473132947, -1341970488, -1084653625, -958395405, -710438585, 113926993, 338241895, 666307205, 773529912, 1294757372, 1396182291, 1695183700, 1986661051, -2117940946, -1838011259, -1564481375, -1474664885, -1035236496, -949202525, -778901479, -694614492, -200395387, 275423344, 430227734, 506948616, 659060556, 883997877, 958139571, 1322822218, 1537002063, 1747873779, 1955562222, 2024104815, -2067236844, -1933114872, -1866530822, -1538233109, -1090935817, -965641998]
def ht_w8 : List Int32 := [1779033703, -1150833019, 1013904242, -1521486534, 1359893119, -1694144372, 528734635, 1541459225]
def ht_l64 : List Int64 := [1116352408, 1899447441, 3049323471, 3921009573, 961987163, 1508970993, 2453635748, 2870763221, 3624381080, 310598401, 607225278, 1426881987, 1925078388, 2162078206, 2614888103, 3248222580, 3835390401, 4022224774, 264347078, 604807628, 770255983, 1249150122, 1555081692, 1996064986, 2554220882, 2821834349, 2952996808, 3210313671, 3336571891, 3584528711, 113926993, 338241895, 666307205, 773529912, 1294757372, 1396182291, 1695183700, 1986661051, 2177026350, 2456956037, 2730485921, 2820302411, 3259730800, 3345764771, 3516065817, 3600352804, 4094571909, 275423344, 430227734, 506948616, 659060556, 883997877, 958139571, 1322822218, 1537002063, 1747873779, 1955562222, 2024104815, 2227730452, 2361852424, 2428436474, 2756734187, 3204031479, 3329325298]
def ht_St (g : ht_G) (U : State) (H : Heap) : Prop :=
  ht_tab .long "HashTree" "EMPTY" "[J" (g.2.2.2 0) 4 (fun _ => .long 0) (ht_A g) U H ∧
  ht_tab .int "HashTree$Digester" "FIRST_WORDS" "[I" (g.2.2.2 1) 8 (fun j => .int (ht_w8.getD j 0)) (ht_A g) U H ∧
  ht_tab .int "HashTree$Digester" "K" "[I" (g.2.2.2 2) 64 (fun j => .int (ht_k64.getD j 0)) (ht_A g) U H ∧
  ht_tab .long "HashTreeModel" "CONSTANTS" "[J" (g.2.2.2 3) 64 (fun j => .long (ht_l64.getD j 0)) (ht_A g) U H ∧
  va_Nw (.castable "HashTree$Branch" "HashTree$Node") U ∧ va_Nw (.castable "HashTree$Leaf" "HashTree$Node") U ∧ va_Nw (.castable "[J" "java/lang/Cloneable") U ∧
  va_Nc "HashTree$Leaf" "HashTree$Branch" U ∧ va_Nc "HashTree$Branch" "HashTree$Leaf" U ∧ va_AO "HashTree$Node" U ∧ va_Nw (.methodLinkNest "HashTree" 15 y_D_init "HashTree") U
theorem ht_St.warm {g : ht_G} {s U : State} {H : Heap} (hW : s.WarmedH U.vm) (h : ht_St g s H) : ht_St g U H := by
  obtain ⟨h1, h2, h3, h4, h5, h6, h7, h8, h9, h10, h11⟩ := h
  exact ⟨h1.moved hW.alike, h2.moved hW.alike, h3.moved hW.alike, h4.moved hW.alike, va_Nw.warmC hW h5, va_Nw.warmC hW h6, va_Nw.warmC hW h7, h8.moved hW.alike, h9.moved hW.alike, h10.moved hW.alike, va_Nw.warmM hW h11⟩
theorem ht_St.same {g : ht_G} {u U : State} {H : Heap} (hv : u.vm = U.vm) (h : ht_St g u H) : ht_St g U H := by
  obtain ⟨h1, h2, h3, h4, h5, h6, h7, h8, h9, h10, h11⟩ := h
  have ha : u.vm.Alike U.vm := hv ▸ Vm.Alike.refl u.vm
  exact ⟨h1.moved ha, h2.moved ha, h3.moved ha, h4.moved ha, va_Nw.same rfl hv h5, va_Nw.same rfl hv h6, va_Nw.same rfl hv h7, h8.moved ha, h9.moved ha, h10.moved ha, va_Nw.same rfl hv h11⟩
theorem ht_St.kept {g : ht_G} {U : State} {H H1 : Heap} (h : ht_St g U H) (hq : ∀ a : Nat, a < H.size → ¬ ht_A g a → H1[a]? = H[a]?) : ht_St g U H1 := by
  obtain ⟨h1, h2, h3, h4, h5⟩ := h
  exact ⟨h1.kept hq, h2.kept hq, h3.kept hq, h4.kept hq, h5⟩
/-- what a method finds, and leaves -/
def ht_WS (g : ht_G) (w : ht_W) (U : State) : Prop := g.2.1 ≤ U.heap.size ∧ va_K g.1 vwCl (ht_ty g) U ∧ ht_St g U U.heap ∧ va_P g.1 vwCl (va_pl w.1 w.2) U.heap ∧ va_D (ht_A g) (va_pl w.1 w.2)
/-- what it knows while it runs -/
def ht_I (g : ht_G) (s : State) (w : ht_W) (H : Heap) (locs : List Loc) : Prop := g.2.1 ≤ s.heap.size ∧ va_K g.1 vwCl (ht_ty g) s ∧ ht_St g s s.heap ∧ va_P g.1 vwCl (va_pl w.1 w.2) H ∧ va_D (ht_A g) (va_pl w.1 w.2) ∧ va_S (ht_A g) s.heap H locs
theorem ht_I.start {g : ht_G} {s : State} {w : ht_W} (h : ht_WS g w s) : ht_I g s w s.heap [] := ⟨h.1, h.2.1, h.2.2.1, h.2.2.2.1, h.2.2.2.2, va_S.rf⟩
theorem ht_I.hA {g : ht_G} {s : State} {w : ht_W} {H : Heap} {locs : List Loc} (h : ht_I g s w H locs) : ∀ q, s.heap.size ≤ q → ht_A g q := fun _ hq => Nat.le_trans h.1 hq
theorem ht_I.to {g : ht_G} {s : State} {w w' : ht_W} {H : Heap} {locs : List Loc} (h : ht_I g s w H locs) (e : w = w') : ht_I g s w' H locs := e ▸ h
theorem ht_I.ws {g : ht_G} {s t : State} {w : ht_W} {H : Heap} {locs : List Loc} (h : ht_I g s w H locs) (ht : t.heap = H) (hW : s.WarmedH t.vm) : ht_WS g w t := by
  subst ht
  exact ⟨Nat.le_trans h.1 h.2.2.2.2.2.1, va_K.moved hW.alike h.2.1, (h.2.2.1.kept h.2.2.2.2.2.2.1).warm hW, h.2.2.2.1, h.2.2.2.2.1⟩
theorem ht_WS.blind {g : ht_G} {w : ht_W} {av : List Value} : FrameBlind (va_Pc av (ht_WS g w)) := by
  intro a U f mk ⟨q0, q1, q2, q3, q4, q5⟩
  exact ⟨q0, q1, va_K.moved (u := U) (U := U.calling f mk a) (Vm.Alike.refl U.vm) q2, q3.same (u := U) (U := U.calling f mk a) rfl, q4, q5⟩
theorem ht_I.preS {g : ht_G} {s : State} {w : ht_W} {H : Heap} {locs : List Loc} (h : ht_I g s w H locs) (As : List Value) : PreS s H (va_Pc As (ht_WS g w)) As := ⟨ht_WS.blind, fun U hU hW => ⟨rfl, h.ws hU hW⟩⟩
theorem ht_ix {w : ht_W} {a : Nat} {e : va_E} (h : ht_at w a e) : ∃ k : Nat, (va_pl w.1 w.2)[k]? = some (a, e) := by
  obtain ⟨k, hk⟩ := va_pl_get (X := []) (f := w.2) h.1
  exact ⟨k, by rw [← h.2]; exact hk⟩
theorem ht_I.preV {g : ht_G} {s : State} {w : ht_W} {H : Heap} {locs : List Loc} (h : ht_I g s w H locs) {b ci : Nat} {fs : List Value} {q : vw_C} (hb : ht_at w b (.inr (ci, fs))) (hc : vwCl[ci]? = some q) (As : List Value) : PreV s H q.1 b (va_Pc (.ref b :: As) (ht_WS g w)) As := by
  obtain ⟨k, hk⟩ := ht_ix hb
  exact ⟨ht_WS.blind, va_recv h.2.1 h.2.2.2.1 hc hk, fun U hU hW => ⟨rfl, h.ws hU hW⟩⟩
theorem ht_I.recv {g : ht_G} {s : State} {w : ht_W} {H : Heap} {locs : List Loc} (h : ht_I g s w H locs) {b ci : Nat} {fs : List Value} {q : vw_C} (hb : ht_at w b (.inr (ci, fs))) (hc : vwCl[ci]? = some q) : ∃ cell : Cell, H[b]? = some cell ∧ cell.vm.isStatics = false ∧ s.vm.findClass q.1 = some cell.cls := by
  obtain ⟨k, hk⟩ := ht_ix hb
  exact va_recv h.2.1 h.2.2.2.1 hc hk
theorem ht_set {A : Nat → Prop} {w : ht_W} {a k : Nat} {e0 e : va_E} (hD : va_D A (va_pl w.1 w.2)) (h : ht_at w a e0) (hk : (va_pl w.1 w.2)[k]? = some (a, e0)) : (va_pl w.1 w.2).set k (a, e) = va_pl (ht_up w a e).1 (ht_up w a e).2 :=
  va_pl_set (X := []) hD h.1 (by rw [h.2]; exact hk)
theorem ht_push {A : Nat → Prop} {w : ht_W} {q : Nat} {e : va_E} (hD : va_D A (va_pl w.1 w.2 ++ [(q, e)])) : q ∉ w.1 ∧ va_pl w.1 w.2 ++ [(q, e)] = va_pl (ht_nw w q e).1 (ht_nw w q e).2 := by
  have h := va_pl_fresh2 (X := []) hD
  exact ⟨h, va_pl_push h⟩
section HTR
variable {p : Program} {l : Launch} {e : Env} {R : Room} {s : State} {m : MethodId} {args : Array Value} {below : List Frame} {meth : Method} {c : Code} {H : Heap} {locs : List Loc} {cells slots : Nat} {Q : State → Prop}
variable {cc : ByteArray} {pc : Nat} {ls : Array Slot} {rest : List Value} {g : ht_G} {w : ht_W} {a : Nat}
theorem ht_get (hx : p.tables.exec = Jvm.exec) (hb : c.code = cc) {own ref C : String} {T : u_T} {N ci index : Nat} {Ts : List Cond} (hts : ∀ w ∈ Ts, w.before args s = true) (hin : ∀ w ∈ u_ws C T N, w ∈ Ts) (hown : s.vm.findClass own = some m.cls) (HW : ht_I g s w H locs) {fs : List Value} (he : ht_at w a (.inr (ci, fs))) (hc : vwCl[ci]? = some (C, T, N)) (k : Nat) (hk : k < N) (hlink : (Cond.fieldLink own index ref (T k).2.1 (T k).2.2.1).before args s = true) (hsame : ∀ x, s.fieldFound? (T k).1 (T k).2.1 (T k).2.2.1 = some x → s.fieldFound? ref (T k).2.1 (T k).2.2.1 = some x) {v : Value} (hv : fs[k]? = some v) (hdg : decode cc pc = .ok (.getfield index, 3))
    (kk : W p l e R s m args below meth c H locs cells slots Q (F0 m (pc + 3) ls (v :: rest))) : W p l e R s m args below meth c H locs cells slots Q (F0 m pc ls (.ref a :: rest)) := by
  obtain ⟨q0, hq⟩ := ht_ix he
  exact va_get hx hb hts hin hown HW.2.1 HW.2.2.2.1 q0 hq hc k hk hlink hsame hv hdg kk
theorem ht_put (hx : p.tables.exec = Jvm.exec) (hb : c.code = cc) {own ref C : String} {T : u_T} {N ci index : Nat} {Ts : List Cond} (hts : ∀ w ∈ Ts, w.before args s = true) (hin : ∀ w ∈ u_ws C T N, w ∈ Ts) (ty0 : Nat → FieldType) (hty : ∀ k, k < N → parseFieldDescriptor (T k).2.2.1 = some (ty0 k)) (hnm : ∀ a, a < N → ∀ b, b < N → a ≠ b → (T a).2.1 ≠ (T b).2.1) (hown : s.vm.findClass own = some m.cls) (HW : ht_I g s w H locs) {fs : List Value} (he : ht_at w a (.inr (ci, fs))) (hc : vwCl[ci]? = some (C, T, N)) (k : Nat) (hk : k < N) (hlink : (Cond.fieldLink own index ref (T k).2.1 (T k).2.2.1).before args s = true) (hsame : ∀ x, s.fieldFound? (T k).1 (T k).2.1 (T k).2.2.1 = some x → s.fieldFound? ref (T k).2.1 (T k).2.2.1 = some x) (hfin : (T k).2.2.2 = false) {ty : FieldType} {v : Value} (hd : parseFieldDescriptor (T k).2.2.1 = some ty) (hn : narrow ty v = v) (hfit : fits ty v = true) (hl : k < fs.length)
    (hdg : decode cc pc = .ok (.putfield index, 3)) (kk : ∀ (H1 : Heap) (locs1 : List Loc), ht_I g s (ht_up w a (.inr (ci, fs.set k v))) H1 locs1 → W p l e R s m args below meth c H1 locs1 cells slots Q (F0 m (pc + 3) ls rest)) : W p l e R s m args below meth c H locs cells slots Q (F0 m pc ls (v :: .ref a :: rest)) := by
  obtain ⟨q0, hq⟩ := ht_ix he
  have hD := HW.2.2.2.2.1
  refine va_put hx hb hts hin ty0 hty hnm hown HW.2.1 HW.2.2.2.1 hD HW.2.2.2.2.2 q0 hq hc k hk hlink hsame hfin hd hn hfit hl hdg (fun H1 locs1 hP1 hD1 hS1 => ?_)
  rw [ht_set hD he hq] at hP1 hD1
  exact kk H1 locs1 ⟨HW.1, HW.2.1, HW.2.2.1, hP1, hD1, hS1⟩
theorem ht_putF (hx : p.tables.exec = Jvm.exec) (hb : c.code = cc) {own ref C : String} {T : u_T} {N ci index : Nat} {Ts : List Cond} (hts : ∀ w ∈ Ts, w.before args s = true) (hin : ∀ w ∈ u_ws C T N, w ∈ Ts) (ty0 : Nat → FieldType) (hty : ∀ k, k < N → parseFieldDescriptor (T k).2.2.1 = some (ty0 k)) (hnm : ∀ a, a < N → ∀ b, b < N → a ≠ b → (T a).2.1 ≠ (T b).2.1) (hown : s.vm.findClass own = some m.cls) (HW : ht_I g s w H locs) {fs : List Value} (he : ht_at w a (.inr (ci, fs))) (hc : vwCl[ci]? = some (C, T, N)) (k : Nat) (hk : k < N) (hlink : (Cond.fieldLink own index ref (T k).2.1 (T k).2.2.1).before args s = true) (hsame : ∀ x, s.fieldFound? (T k).1 (T k).2.1 (T k).2.2.1 = some x → s.fieldFound? ref (T k).2.1 (T k).2.2.1 = some x) (hfin : (T k).2.2.2 = true) (hin2 : meth.name = "<init>") (hdecl : (T k).1 = own) {ty : FieldType} {v : Value} (hd : parseFieldDescriptor (T k).2.2.1 = some ty) (hn : narrow ty v = v) (hfit : fits ty v = true) (hl : k < fs.length)
    (hdg : decode cc pc = .ok (.putfield index, 3)) (kk : ∀ (H1 : Heap) (locs1 : List Loc), ht_I g s (ht_up w a (.inr (ci, fs.set k v))) H1 locs1 → W p l e R s m args below meth c H1 locs1 cells slots Q (F0 m (pc + 3) ls rest)) : W p l e R s m args below meth c H locs cells slots Q (F0 m pc ls (v :: .ref a :: rest)) := by
  obtain ⟨q0, hq⟩ := ht_ix he
  have hD := HW.2.2.2.2.1
  refine va_putF hx hb hts hin ty0 hty hnm hown HW.2.1 HW.2.2.2.1 hD HW.2.2.2.2.2 q0 hq hc k hk hlink hsame hfin hin2 hdecl hd hn hfit hl hdg (fun H1 locs1 hP1 hD1 hS1 => ?_)
  rw [ht_set hD he hq] at hP1 hD1
  exact kk H1 locs1 ⟨HW.1, HW.2.1, HW.2.2.1, hP1, hD1, hS1⟩
theorem ht_iald (hx : p.tables.exec = Jvm.exec) (hb : c.code = cc) (HW : ht_I g s w H locs) {n : Nat} {f : Nat → Int32} (ha : ht_at w a (ht_ai g n f)) {i : Int32} (hin : vp_in i n) (hdg : decode cc pc = .ok (.iaload, 1))
    (kk : W p l e R s m args below meth c H locs cells slots Q (F0 m (pc + 1) ls (.int (f i.toNatClampNeg) :: rest))) : W p l e R s m args below meth c H locs cells slots Q (F0 m pc ls (.int i :: .ref a :: rest)) := by
  obtain ⟨q0, hq⟩ := ht_ix ha
  exact va_iald hx hb HW.2.1 HW.2.2.2.1 q0 0 hq rfl hin hdg kk
theorem ht_lald (hx : p.tables.exec = Jvm.exec) (hb : c.code = cc) (HW : ht_I g s w H locs) {n : Nat} {f : Nat → Int64} (ha : ht_at w a (ht_al g n f)) {i : Int32} (hin : vp_in i n) (hdg : decode cc pc = .ok (.laload, 1))
    (kk : W p l e R s m args below meth c H locs cells slots Q (F0 m (pc + 1) ls (.long (f i.toNatClampNeg) :: rest))) : W p l e R s m args below meth c H locs cells slots Q (F0 m pc ls (.int i :: .ref a :: rest)) := by
  obtain ⟨q0, hq⟩ := ht_ix ha
  exact va_lald hx hb HW.2.1 HW.2.2.2.1 q0 1 hq rfl hin hdg kk
theorem ht_aald (hx : p.tables.exec = Jvm.exec) (hb : c.code = cc) (HW : ht_I g s w H locs) {n : Nat} {f : Nat → Option Nat} (ha : ht_at w a (ht_aq g n f)) {i : Int32} (hin : vp_in i n) (hdg : decode cc pc = .ok (.aaload, 1))
    (kk : W p l e R s m args below meth c H locs cells slots Q (F0 m (pc + 1) ls (va_rf (f i.toNatClampNeg) :: rest))) : W p l e R s m args below meth c H locs cells slots Q (F0 m pc ls (.int i :: .ref a :: rest)) := by
  obtain ⟨q0, hq⟩ := ht_ix ha
  exact va_aldq hx hb HW.2.1 HW.2.2.2.1 q0 2 hq rfl hin hdg kk
theorem ht_iast (hx : p.tables.exec = Jvm.exec) (hb : c.code = cc) (HW : ht_I g s w H locs) {n : Nat} {f : Nat → Int32} (ha : ht_at w a (ht_ai g n f)) {i : Int32} {x : Int32} (hin : vp_in i n) (hdg : decode cc pc = .ok (.iastore, 1))
    (kk : ∀ (H1 : Heap) (locs1 : List Loc), ht_I g s (ht_up w a (ht_ai g n (upd f i.toNatClampNeg x))) H1 locs1 → W p l e R s m args below meth c H1 locs1 cells slots Q (F0 m (pc + 1) ls rest)) : W p l e R s m args below meth c H locs cells slots Q (F0 m pc ls (.int x :: .int i :: .ref a :: rest)) := by
  obtain ⟨q0, hq⟩ := ht_ix ha
  have hD := HW.2.2.2.2.1
  refine va_iast hx hb HW.2.1 HW.2.2.2.1 hD HW.2.2.2.2.2 q0 0 hq rfl hin hdg (fun H1 locs1 hP1 hD1 hS1 => ?_)
  rw [ht_set hD ha hq] at hP1 hD1
  exact kk H1 locs1 ⟨HW.1, HW.2.1, HW.2.2.1, hP1, hD1, hS1⟩
theorem ht_bald (hx : p.tables.exec = Jvm.exec) (hb : c.code = cc) (HW : ht_I g s w H locs) {n : Nat} {f : Nat → Int32} (ha : ht_at w a (ht_ab g n f)) {i : Int32} (hin : vp_in i n) (hdg : decode cc pc = .ok (.baload, 1))
    (kk : W p l e R s m args below meth c H locs cells slots Q (F0 m (pc + 1) ls (.int (f i.toNatClampNeg) :: rest))) : W p l e R s m args below meth c H locs cells slots Q (F0 m pc ls (.int i :: .ref a :: rest)) := by
  obtain ⟨q0, hq⟩ := ht_ix ha
  exact va_bald hx hb HW.2.1 HW.2.2.2.1 q0 3 hq rfl hin hdg kk
theorem ht_last (hx : p.tables.exec = Jvm.exec) (hb : c.code = cc) (HW : ht_I g s w H locs) {n : Nat} {f : Nat → Int64} (ha : ht_at w a (ht_al g n f)) {i : Int32} {x : Int64} (hin : vp_in i n) (hdg : decode cc pc = .ok (.lastore, 1))
    (kk : ∀ (H1 : Heap) (locs1 : List Loc), ht_I g s (ht_up w a (ht_al g n (vp_updL f i.toNatClampNeg x))) H1 locs1 → W p l e R s m args below meth c H1 locs1 cells slots Q (F0 m (pc + 1) ls rest)) : W p l e R s m args below meth c H locs cells slots Q (F0 m pc ls (.long x :: .int i :: .ref a :: rest)) := by
  obtain ⟨q0, hq⟩ := ht_ix ha
  have hD := HW.2.2.2.2.1
  refine va_last hx hb HW.2.1 HW.2.2.2.1 hD HW.2.2.2.2.2 q0 1 hq rfl hin hdg (fun H1 locs1 hP1 hD1 hS1 => ?_)
  rw [ht_set hD ha hq] at hP1 hD1
  exact kk H1 locs1 ⟨HW.1, HW.2.1, HW.2.2.1, hP1, hD1, hS1⟩
theorem ht_aast (hx : p.tables.exec = Jvm.exec) (hb : c.code = cc) (HW : ht_I g s w H locs) {n v : Nat} {f : Nat → Option Nat} (ha : ht_at w a (ht_aq g n f)) (hr : va_Any "HashTree$Node" s H v) {i : Int32} (hin : vp_in i n) (hdg : decode cc pc = .ok (.aastore, 1))
    (kk : ∀ (H1 : Heap) (locs1 : List Loc), ht_I g s (ht_up w a (ht_aq g n (va_up f i.toNatClampNeg (some v)))) H1 locs1 → W p l e R s m args below meth c H1 locs1 cells slots Q (F0 m (pc + 1) ls rest)) : W p l e R s m args below meth c H locs cells slots Q (F0 m pc ls (.ref v :: .int i :: .ref a :: rest)) := by
  obtain ⟨q0, hq⟩ := ht_ix ha
  have hD := HW.2.2.2.2.1
  refine va_astqM hx hb HW.2.1 HW.2.2.2.1 hD HW.2.2.2.2.2 q0 2 hq rfl hr hin hdg (fun H1 locs1 hP1 hD1 hS1 => ?_)
  rw [ht_set hD ha hq] at hP1 hD1
  exact kk H1 locs1 ⟨HW.1, HW.2.1, HW.2.2.1, hP1, hD1, hS1⟩
theorem ht_new (hx : p.tables.exec = Jvm.exec) (hb : c.code = cc) {own C : String} {T : u_T} {N ci index : Nat} {Ts : List Cond} (hts : ∀ w ∈ Ts, w.before args s = true) (hin : ∀ w ∈ u_ws C T N, w ∈ Ts) (ty : Nat → FieldType) (hty : ∀ k, k < N → parseFieldDescriptor (T k).2.2.1 = some (ty k)) (hown : s.vm.findClass own = some m.cls) (hcl : (Cond.classLink own index C).before args s = true) (hinst : (Cond.instantiable C N).before args s = true) (hini : (Cond.initialized C).before args s = true)
    (HW : ht_I g s w H locs) (hc : vwCl[ci]? = some (C, T, N)) {fs : List Value} (hfs : ∀ j, j < N → defaultValue (ty j) = vp_V fs j) (hcells : cells + 1 ≤ R.cells) (hslots : slots + N ≤ R.slots) (hdg : decode cc pc = .ok (.new index, 3))
    (kk : ∀ (q : Nat) (H1 : Heap), q ∉ w.1 → ht_I g s (ht_nw w q (.inr (ci, fs))) H1 locs → W p l e R s m args below meth c H1 locs (cells + 1) (slots + N) Q (F0 m (pc + 3) ls (.ref q :: rest))) : W p l e R s m args below meth c H locs cells slots Q (F0 m pc ls rest) := by
  refine va_new hx hb hts hin ty hty hown hcl hinst hini HW.2.1 HW.2.2.2.1 HW.2.2.2.2.1 HW.2.2.2.2.2 HW.hA hc hfs hcells hslots hdg (fun q H1 hP1 hD1 hS1 => ?_)
  obtain ⟨hq, he⟩ := ht_push hD1
  rw [he] at hP1 hD1
  exact kk q H1 hq ⟨HW.1, HW.2.1, HW.2.2.1, hP1, hD1, hS1⟩
theorem ht_newi (hx : p.tables.exec = Jvm.exec) (hb : c.code = cc) (harr : (Cond.arrayClass .int).before args s = true) (HW : ht_I g s w H locs) {n : Int32} {N' : Nat} (hn : ¬ n < 0) (hN : n.toNatClampNeg = N') (hbytes : N' * componentBytes .int ≤ 536870912) (hcells : cells + 1 ≤ R.cells) (hslots : slots + N' ≤ R.slots) {atype : ArrayType} (hty : newarray.typeOf atype = .int) (hdg : decode cc pc = .ok (.newarray atype, 2))
    (kk : ∀ (q : Nat) (H1 : Heap), q ∉ w.1 → ht_I g s (ht_nw w q (ht_ai g N' (fun _ => 0))) H1 locs → W p l e R s m args below meth c H1 locs (cells + 1) (slots + N') Q (F0 m (pc + 2) ls (.ref q :: rest))) : W p l e R s m args below meth c H locs cells slots Q (F0 m pc ls (.int n :: rest)) := by
  refine va_newa hx hb (by rw [hty]; exact harr) hty HW.2.1 HW.2.2.2.1 HW.2.2.2.2.1 HW.2.2.2.2.2 HW.hA (a0 := (N', .inl (fun _ => 0))) (fun _ => rfl) hn hN hbytes hcells hslots hdg (fun q cA H1 hK1 hP1 hD1 hS1 => ?_)
  have e1 : cA = g.2.2.1 0 := by
    have h1 := va_nm_int (hK1.2 (ht_ty g).length (cA, .int) (by rw [List.getElem?_append_right (Nat.le_refl _), Nat.sub_self]; rfl)).2
    have h2 := va_nm_int (HW.2.1.2 0 (g.2.2.1 0, .int) rfl).2
    exact Option.some.inj (h1.symm.trans h2)
  subst e1
  obtain ⟨hq, he⟩ := ht_push hD1
  rw [he] at hP1 hD1
  exact kk q H1 hq ⟨HW.1, HW.2.1, HW.2.2.1, hP1, hD1, hS1⟩
theorem ht_newl (hx : p.tables.exec = Jvm.exec) (hb : c.code = cc) (harr : (Cond.arrayClass .long).before args s = true) (HW : ht_I g s w H locs) {n : Int32} {N' : Nat} (hn : ¬ n < 0) (hN : n.toNatClampNeg = N') (hbytes : N' * componentBytes .long ≤ 536870912) (hcells : cells + 1 ≤ R.cells) (hslots : slots + N' ≤ R.slots) {atype : ArrayType} (hty : newarray.typeOf atype = .long) (hdg : decode cc pc = .ok (.newarray atype, 2))
    (kk : ∀ (q : Nat) (H1 : Heap), q ∉ w.1 → ht_I g s (ht_nw w q (ht_al g N' (fun _ => 0))) H1 locs → W p l e R s m args below meth c H1 locs (cells + 1) (slots + N') Q (F0 m (pc + 2) ls (.ref q :: rest))) : W p l e R s m args below meth c H locs cells slots Q (F0 m pc ls (.int n :: rest)) := by
  refine va_newa hx hb (by rw [hty]; exact harr) hty HW.2.1 HW.2.2.2.1 HW.2.2.2.2.1 HW.2.2.2.2.2 HW.hA (a0 := (N', .inr (.inl (fun _ => 0)))) (fun _ => rfl) hn hN hbytes hcells hslots hdg (fun q cA H1 hK1 hP1 hD1 hS1 => ?_)
  have e1 : cA = g.2.2.1 1 := by
    have h1 := va_nm_long (hK1.2 (ht_ty g).length (cA, .long) (by rw [List.getElem?_append_right (Nat.le_refl _), Nat.sub_self]; rfl)).2
    have h2 := va_nm_long (HW.2.1.2 1 (g.2.2.1 1, .long) rfl).2
    exact Option.some.inj (h1.symm.trans h2)
  subst e1
  obtain ⟨hq, he⟩ := ht_push hD1
  rw [he] at hP1 hD1
  exact kk q H1 hq ⟨HW.1, HW.2.1, HW.2.2.1, hP1, hD1, hS1⟩
/-- the ends of a method -/
abbrev ht_Qi (g : ht_G) (post : Int32 → ht_W → Prop) : Array Value → State → Outcome → State → Prop := va_Qi post (ht_WS g) (ht_A g)
abbrev ht_Ql (g : ht_G) (post : Int64 → ht_W → Prop) : Array Value → State → Outcome → State → Prop := va_Ql post (ht_WS g) (ht_A g)
abbrev ht_Qv (g : ht_G) (post : ht_W → Prop) : Array Value → State → Outcome → State → Prop := va_Qv post (ht_WS g) (ht_A g)
abbrev ht_Qq (g : ht_G) (post : Option Nat → ht_W → Prop) : Array Value → State → Outcome → State → Prop := va_Qq post (ht_WS g) (ht_A g)
theorem ht_iret (hx : p.tables.exec = Jvm.exec) (hb : c.code = cc) (hr : meth.sig.returnType = some .int) (hlocks : meth.locks = false) (HW : ht_I g s w H locs) {post : Int32 → ht_W → Prop} {v : Int32} (hp : post v w) (hdg : decode cc pc = .ok (.ireturn, 1)) : W p l e R s m args below meth c H locs cells slots (MQ below (ht_Qi g post) args s cells slots (ht_A g)) (F0 m pc ls [.int v]) :=
  W.iret hx hb hr (fun t ht hW => ⟨⟨v, w, rfl, hp, HW.ws ht hW⟩, HW.2.2.2.2.2.F ht⟩) HW.2.2.2.2.2.2.2 hdg hlocks
theorem ht_zret (hx : p.tables.exec = Jvm.exec) (hb : c.code = cc) (hr : meth.sig.returnType = some .boolean) (hlocks : meth.locks = false) (HW : ht_I g s w H locs) {post : Int32 → ht_W → Prop} {v : Int32} (hn : narrow .boolean (.int v) = .int v) (hp : post v w) (hdg : decode cc pc = .ok (.ireturn, 1)) : W p l e R s m args below meth c H locs cells slots (MQ below (ht_Qi g post) args s cells slots (ht_A g)) (F0 m pc ls [.int v]) :=
  W.zret hx hb hr hn (fun t ht hW => ⟨⟨v, w, rfl, hp, HW.ws ht hW⟩, HW.2.2.2.2.2.F ht⟩) HW.2.2.2.2.2.2.2 hdg hlocks
theorem ht_lret (hx : p.tables.exec = Jvm.exec) (hb : c.code = cc) (hr : meth.sig.returnType = some .long) (hlocks : meth.locks = false) (HW : ht_I g s w H locs) {post : Int64 → ht_W → Prop} {v : Int64} (hp : post v w) (hdg : decode cc pc = .ok (.lreturn, 1)) : W p l e R s m args below meth c H locs cells slots (MQ below (ht_Ql g post) args s cells slots (ht_A g)) (F0 m pc ls [.long v]) :=
  W.lret hx hb hr (fun t ht hW => ⟨⟨v, w, rfl, hp, HW.ws ht hW⟩, HW.2.2.2.2.2.F ht⟩) HW.2.2.2.2.2.2.2 hdg hlocks
theorem ht_vret (hx : p.tables.exec = Jvm.exec) (hb : c.code = cc) (hr : meth.sig.returnType = none) (hlocks : meth.locks = false) (HW : ht_I g s w H locs) {post : ht_W → Prop} (hp : post w) (hdg : decode cc pc = .ok (.return_, 1)) : W p l e R s m args below meth c H locs cells slots (MQ below (ht_Qv g post) args s cells slots (ht_A g)) (F0 m pc ls []) :=
  W.vret hx hb hr (fun t ht hW => ⟨⟨w, rfl, hp, HW.ws ht hW⟩, HW.2.2.2.2.2.F ht⟩) HW.2.2.2.2.2.2.2 hdg hlocks
theorem ht_qret (hx : p.tables.exec = Jvm.exec) (hb : c.code = cc) {nm : String} (hr : meth.sig.returnType = some (.object nm)) (hlocks : meth.locks = false) (HW : ht_I g s w H locs) {post : Option Nat → ht_W → Prop} {r : Option Nat} (hp : post r w) (hdg : decode cc pc = .ok (.areturn, 1)) : W p l e R s m args below meth c H locs cells slots (MQ below (ht_Qq g post) args s cells slots (ht_A g)) (F0 m pc ls [va_rf r]) :=
  W.aret hx hb hr (Or.inl ⟨nm, rfl⟩) (va_rf_or r) (fun t ht hW => ⟨⟨r, w, rfl, hp, HW.ws ht hW⟩, HW.2.2.2.2.2.F ht⟩) HW.2.2.2.2.2.2.2 hdg hlocks
/-- behind a call: the callee's world -/
theorem ht_back {w1 : ht_W} {t : State} {H1 : Heap} {locs1 : List Loc} (HW : ht_I g s w H locs) (ht : t.heap = H1) (hvm : s.vm.Alike t.vm) (hB : ht_WS g w1 t) (hS : va_S (ht_A g) s.heap H1 locs1) : ht_I g s w1 H1 locs1 := by
  subst ht
  exact ⟨HW.1, HW.2.1, HW.2.2.1, hB.2.2.2.1, hB.2.2.2.2, hS⟩
variable {mc ms : Nat} {st0 : List Value} {av : Array Value}
theorem ht_ci (HW : ht_I g s w H locs) {post : Int32 → ht_W → Prop} (hr : va_Run p l e R s m args below meth c H locs cells slots mc ms (F0 m pc ls st0) rest (ht_Qi g post av) (ht_A g))
    (kk : ∀ (r : Int32) (w1 : ht_W) (H1 : Heap) (locs1 : List Loc), post r w1 → ht_I g s w1 H1 locs1 → W p l e R s m args below meth c H1 locs1 (cells + mc) (slots + ms) Q (F0 m (pc + 3) ls (.int r :: rest))) : W p l e R s m args below meth c H locs cells slots Q (F0 m pc ls st0) :=
  va_calli hr HW.2.2.2.2.2 (fun _ _ h => h) (fun _ h => h) (fun r u t H1 locs1 ht hvm hw hB _ _ hS => kk r u H1 locs1 hw (ht_back HW ht hvm hB hS))
theorem ht_cl (HW : ht_I g s w H locs) {post : Int64 → ht_W → Prop} (hr : va_Run p l e R s m args below meth c H locs cells slots mc ms (F0 m pc ls st0) rest (ht_Ql g post av) (ht_A g))
    (kk : ∀ (r : Int64) (w1 : ht_W) (H1 : Heap) (locs1 : List Loc), post r w1 → ht_I g s w1 H1 locs1 → W p l e R s m args below meth c H1 locs1 (cells + mc) (slots + ms) Q (F0 m (pc + 3) ls (.long r :: rest))) : W p l e R s m args below meth c H locs cells slots Q (F0 m pc ls st0) :=
  va_calll hr HW.2.2.2.2.2 (fun _ _ h => h) (fun _ h => h) (fun r u t H1 locs1 ht hvm hw hB _ _ hS => kk r u H1 locs1 hw (ht_back HW ht hvm hB hS))
theorem ht_cv (HW : ht_I g s w H locs) {post : ht_W → Prop} (hr : va_Run p l e R s m args below meth c H locs cells slots mc ms (F0 m pc ls st0) rest (ht_Qv g post av) (ht_A g))
    (kk : ∀ (w1 : ht_W) (H1 : Heap) (locs1 : List Loc), post w1 → ht_I g s w1 H1 locs1 → W p l e R s m args below meth c H1 locs1 (cells + mc) (slots + ms) Q (F0 m (pc + 3) ls rest)) : W p l e R s m args below meth c H locs cells slots Q (F0 m pc ls st0) :=
  va_callv hr HW.2.2.2.2.2 (fun _ _ h => h) (fun _ h => h) (fun u t H1 locs1 ht hvm hw hB _ _ hS => kk u H1 locs1 hw (ht_back HW ht hvm hB hS))
theorem ht_cq (HW : ht_I g s w H locs) {post : Option Nat → ht_W → Prop} (hr : va_Run p l e R s m args below meth c H locs cells slots mc ms (F0 m pc ls st0) rest (ht_Qq g post av) (ht_A g))
    (kk : ∀ (r : Option Nat) (w1 : ht_W) (H1 : Heap) (locs1 : List Loc), post r w1 → ht_I g s w1 H1 locs1 → W p l e R s m args below meth c H1 locs1 (cells + mc) (slots + ms) Q (F0 m (pc + 3) ls (va_rf r :: rest))) : W p l e R s m args below meth c H locs cells slots Q (F0 m pc ls st0) :=
  va_callq hr HW.2.2.2.2.2 (fun _ _ h => h) (fun _ h => h) (fun r u t H1 locs1 ht hvm hw hB _ _ hS => kk r u H1 locs1 hw (ht_back HW ht hvm hB hS))
end HTR
/-! What stands in an array beyond its end doesn't count. -/
theorem ht_arrV {cA : ClassId} {n : Nat} {f f' : Nat → Value} (h : ∀ j, j < n → f j = f' j) : arrV cA n f = arrV cA n f' := by
  unfold arrV
  have : (fun j : Fin n => f j.val) = (fun j : Fin n => f' j.val) := funext (fun j => h j.val j.isLt)
  rw [this]
def ht_eqv (e e' : va_E) : Prop := ∀ (D : va_G) (cl : List vw_C) (a : Nat) (H : Heap), va_at D cl (a, e) H → va_at D cl (a, e') H
theorem ht_eqv_i {g : ht_G} {n : Nat} {f f' : Nat → Int32} (h : ∀ j, j < n → f j = f' j) : ht_eqv (ht_ai g n f) (ht_ai g n f') := by
  intro D cl a H q
  have e : vp_cell (g.2.2.1 0) (n, .inl f) = vp_cell (g.2.2.1 0) (n, .inl f') := by rw [vp_cell_i, vp_cell_i]; exact ht_arrV (fun j hj => by rw [h j hj])
  show H[a]? = some (vp_cell (g.2.2.1 0) (n, .inl f'))
  rw [← e]
  exact q
theorem ht_eqv_b {g : ht_G} {n : Nat} {f f' : Nat → Int32} (h : ∀ j, j < n → f j = f' j) : ht_eqv (ht_ab g n f) (ht_ab g n f') := by
  intro D cl a H q
  have e : vp_cell (g.2.2.1 3) (n, .inl f) = vp_cell (g.2.2.1 3) (n, .inl f') := by rw [vp_cell_i, vp_cell_i]; exact ht_arrV (fun j hj => by rw [h j hj])
  show H[a]? = some (vp_cell (g.2.2.1 3) (n, .inl f'))
  rw [← e]
  exact q
theorem ht_eqv_l {g : ht_G} {n : Nat} {f f' : Nat → Int64} (h : ∀ j, j < n → f j = f' j) : ht_eqv (ht_al g n f) (ht_al g n f') := by
  intro D cl a H q
  have e : vp_cell (g.2.2.1 1) (n, .inr (.inl f)) = vp_cell (g.2.2.1 1) (n, .inr (.inl f')) := by rw [vp_cell_l, vp_cell_l]; exact ht_arrV (fun j hj => by rw [h j hj])
  show H[a]? = some (vp_cell (g.2.2.1 1) (n, .inr (.inl f')))
  rw [← e]
  exact q
theorem ht_eqv_q {g : ht_G} {n : Nat} {f f' : Nat → Option Nat} (h : ∀ j, j < n → f j = f' j) : ht_eqv (ht_aq g n f) (ht_aq g n f') := by
  intro D cl a H q
  have e : vp_cell (g.2.2.1 2) (n, .inr (.inr (.inr (.inr f)))) = vp_cell (g.2.2.1 2) (n, .inr (.inr (.inr (.inr f')))) := by rw [vp_cell_q, vp_cell_q]; exact ht_arrV (fun j hj => by rw [h j hj])
  show H[a]? = some (vp_cell (g.2.2.1 2) (n, .inr (.inr (.inr (.inr f')))))
  rw [← e]
  exact q
theorem ht_I.cg {g : ht_G} {s : State} {w : ht_W} {H : Heap} {locs : List Loc} {a : Nat} {e e' : va_E} (h : ht_I g s (ht_up w a e) H locs) (hq : ht_eqv e e') : ht_I g s (ht_up w a e') H locs := by
  obtain ⟨h1, h2, h3, h4, h5, h6⟩ := h
  have key : ∀ (k : Nat) (q : Nat × va_E), (va_pl (ht_up w a e').1 (ht_up w a e').2)[k]? = some q → ∃ q0, (va_pl (ht_up w a e).1 (ht_up w a e).2)[k]? = some q0 ∧ q0.1 = q.1 ∧ ((q.1 = a ∧ q.2 = e' ∧ q0.2 = e) ∨ q0 = q) := by
    intro k q hk
    simp only [va_pl, List.getElem?_map, ht_up] at hk ⊢
    cases hb : w.1[k]? with
    | none => rw [hb] at hk; cases hk
    | some b =>
      rw [hb] at hk
      simp only [Option.map_some, Option.some.injEq] at hk ⊢
      subst hk
      refine ⟨_, rfl, rfl, ?_⟩
      by_cases e1 : b = a
      · subst e1
        exact Or.inl ⟨rfl, va_up_self _ _ _, va_up_self _ _ _⟩
      · exact Or.inr (by rw [va_up_ne _ _ e1, va_up_ne _ _ e1])
  refine ⟨h1, h2, h3, fun k q hk => ?_, ⟨fun i j p q hi hj hpq => ?_, fun k q hk => ?_⟩, h6⟩
  · obtain ⟨q0, y1, y2, ⟨z1, z2, z3⟩ | z⟩ := key k q hk
    · have := h4 k q0 y1
      obtain ⟨qa, qe⟩ := q
      obtain ⟨q0a, q0e⟩ := q0
      simp only at y2 z1 z2 z3
      subst z2; subst z3; subst y2
      exact hq _ _ _ _ this
    · rw [← z]; exact h4 k q0 y1
  · obtain ⟨p0, y1, y2, -⟩ := key i p hi
    obtain ⟨q0, y3, y4, -⟩ := key j q hj
    exact h5.1 i j p0 q0 y1 y3 (by rw [y2, y4, hpq])
  · obtain ⟨q0, y1, y2, -⟩ := key k q hk
    rw [← y2]
    exact h5.2 k q0 y1
section HTR2
variable {p : Program} {l : Launch} {e : Env} {R : Room} {s : State} {m : MethodId} {args : Array Value} {below : List Frame} {meth : Method} {c : Code} {H : Heap} {locs : List Loc} {cells slots : Nat} {Q : State → Prop}
variable {cc : ByteArray} {pc : Nat} {ls : Array Slot} {rest : List Value} {g : ht_G} {w : ht_W} {a : Nat}
theorem ht_bast (hx : p.tables.exec = Jvm.exec) (hb : c.code = cc) (HW : ht_I g s w H locs) {n : Nat} {f : Nat → Int32} (ha : ht_at w a (ht_ab g n f)) {i : Int32} {x : Int32} (hin : vp_in i n) (hdg : decode cc pc = .ok (.bastore, 1))
    (kk : ∀ (H1 : Heap) (locs1 : List Loc), ht_I g s (ht_up w a (ht_ab g n (upd f i.toNatClampNeg (vp_nar .byte x)))) H1 locs1 → W p l e R s m args below meth c H1 locs1 cells slots Q (F0 m (pc + 1) ls rest)) : W p l e R s m args below meth c H locs cells slots Q (F0 m pc ls (.int x :: .int i :: .ref a :: rest)) := by
  obtain ⟨q0, hq⟩ := ht_ix ha
  have hD := HW.2.2.2.2.1
  refine va_bast hx hb HW.2.1 HW.2.2.2.1 hD HW.2.2.2.2.2 q0 3 hq rfl hin hdg (fun H1 locs1 hP1 hD1 hS1 => ?_)
  rw [ht_set hD ha hq] at hP1 hD1
  exact kk H1 locs1 ⟨HW.1, HW.2.1, HW.2.2.1, hP1, hD1, hS1⟩
theorem ht_alen (hx : p.tables.exec = Jvm.exec) (hb : c.code = cc) (HW : ht_I g s w H locs) {n : Nat} {f : Nat → Int64} (ha : ht_at w a (ht_al g n f)) (hdg : decode cc pc = .ok (.arraylength, 1))
    (kk : W p l e R s m args below meth c H locs cells slots Q (F0 m (pc + 1) ls (.int (nI n) :: rest))) : W p l e R s m args below meth c H locs cells slots Q (F0 m pc ls (.ref a :: rest)) := by
  obtain ⟨q0, hq⟩ := ht_ix ha
  exact va_alen hx hb HW.2.1 HW.2.2.2.1 q0 1 hq rfl rfl hdg kk
theorem ht_newb (hx : p.tables.exec = Jvm.exec) (hb : c.code = cc) (harr : (Cond.arrayClass .byte).before args s = true) (HW : ht_I g s w H locs) {n : Int32} {N' : Nat} (hn : ¬ n < 0) (hN : n.toNatClampNeg = N') (hbytes : N' * componentBytes .byte ≤ 536870912) (hcells : cells + 1 ≤ R.cells) (hslots : slots + N' ≤ R.slots) {atype : ArrayType} (hty : newarray.typeOf atype = .byte) (hdg : decode cc pc = .ok (.newarray atype, 2))
    (kk : ∀ (q : Nat) (H1 : Heap), q ∉ w.1 → ht_I g s (ht_nw w q (ht_ab g N' (fun _ => 0))) H1 locs → W p l e R s m args below meth c H1 locs (cells + 1) (slots + N') Q (F0 m (pc + 2) ls (.ref q :: rest))) : W p l e R s m args below meth c H locs cells slots Q (F0 m pc ls (.int n :: rest)) := by
  refine va_newa hx hb (by rw [hty]; exact harr) hty HW.2.1 HW.2.2.2.1 HW.2.2.2.2.1 HW.2.2.2.2.2 HW.hA (a0 := (N', .inl (fun _ => 0))) (fun _ => rfl) hn hN hbytes hcells hslots hdg (fun q cA H1 hK1 hP1 hD1 hS1 => ?_)
  have e1 : cA = g.2.2.1 3 := by
    have h1 := va_nm_byte (hK1.2 (ht_ty g).length (cA, .byte) (by rw [List.getElem?_append_right (Nat.le_refl _), Nat.sub_self]; rfl)).2
    have h2 := va_nm_byte (HW.2.1.2 3 (g.2.2.1 3, .byte) rfl).2
    exact Option.some.inj (h1.symm.trans h2)
  subst e1
  obtain ⟨hq, he⟩ := ht_push hD1
  rw [he] at hP1 hD1
  exact kk q H1 hq ⟨HW.1, HW.2.1, HW.2.2.1, hP1, hD1, hS1⟩
theorem ht_newq (hx : p.tables.exec = Jvm.exec) (hb : c.code = cc) {own : String} {index : Nat} (hown : s.vm.findClass own = some m.cls) (hclink : (Cond.classLink own index "HashTree$Node").before args s = true) (HW : ht_I g s w H locs)
    {n : Int32} {N' : Nat} (hn : ¬ n < 0) (hN : n.toNatClampNeg = N') (hbytes : N' * 4 ≤ 536870912) (hcells : cells + 1 ≤ R.cells) (hslots : slots + N' ≤ R.slots) (hdg : decode cc pc = .ok (.anewarray index, 3))
    (kk : ∀ (q : Nat) (H1 : Heap), q ∉ w.1 → ht_I g s (ht_nw w q (ht_aq g N' (fun _ => none))) H1 locs → W p l e R s m args below meth c H1 locs (cells + 1) (slots + N') Q (F0 m (pc + 3) ls (.ref q :: rest))) : W p l e R s m args below meth c H locs cells slots Q (F0 m pc ls (.int n :: rest)) := by
  refine va_newq hx hb hown hclink HW.2.2.1.2.2.2.2.2.2.2.2.2.1 HW.2.1 HW.2.2.2.1 HW.2.2.2.2.1 HW.2.2.2.2.2 HW.hA hn hN hbytes hcells hslots hdg (fun q cA H1 hK1 hP1 hD1 hS1 => ?_)
  have e1 : cA = g.2.2.1 2 := by
    obtain ⟨-, -, -, -, -, h1⟩ := (hK1.2 (ht_ty g).length (cA, .object "HashTree$Node") (by rw [List.getElem?_append_right (Nat.le_refl _), Nat.sub_self]; rfl)).2
    obtain ⟨-, -, -, -, -, h2⟩ := (HW.2.1.2 2 (g.2.2.1 2, .object "HashTree$Node") rfl).2
    exact Option.some.inj (h1.symm.trans h2)
  subst e1
  obtain ⟨hq, he⟩ := ht_push hD1
  rw [he] at hP1 hD1
  exact kk q H1 hq ⟨HW.1, HW.2.1, HW.2.2.1, hP1, hD1, hS1⟩
theorem ht_gets (hx : p.tables.exec = Jvm.exec) (hb : c.code = cc) {ty : FieldType} {C n d own ref : String} {t N index : Nat} {f : Nat → Value} (hT : ht_tab ty C n d t N f (ht_A g) s s.heap) (HW : ht_I g s w H locs) (hown : s.vm.findClass own = some m.cls) (hlink : (Cond.fieldLink own index ref n d).before args s = true) (hsame : ∀ x, s.fieldFound? C n d = some x → s.fieldFound? ref n d = some x) (hdg : decode cc pc = .ok (.getstatic index, 3))
    (kk : W p l e R s m args below meth c H locs cells slots Q (F0 m (pc + 3) ls (.ref t :: rest))) : W p l e R s m args below meth c H locs cells slots Q (F0 m pc ls rest) :=
  va_gets hx hb hT.1 HW.2.2.2.2.2 hown hlink hsame hdg kk
/-- a row of four: a cell of the pool, or the static row of zeros -/
def ht_rd (g : ht_G) (w : ht_W) (t : Nat) (f : Nat → Int64) : Prop := ht_at w t (ht_al g 4 f) ∨ (t = g.2.2.2 0 ∧ ∀ j, j < 4 → f j = 0)
theorem ht_rdl (hx : p.tables.exec = Jvm.exec) (hb : c.code = cc) (HW : ht_I g s w H locs) {t : Nat} {f : Nat → Int64} (h : ht_rd g w t f) {i : Int32} (hin : vp_in i 4) (hdg : decode cc pc = .ok (.laload, 1))
    (kk : W p l e R s m args below meth c H locs cells slots Q (F0 m (pc + 1) ls (.long (f i.toNatClampNeg) :: rest))) : W p l e R s m args below meth c H locs cells slots Q (F0 m pc ls (.int i :: .ref t :: rest)) := by
  rcases h with h | ⟨rfl, h⟩
  · exact ht_lald hx hb HW h hin hdg kk
  · refine va_tl hx hb HW.2.2.1.1.2 HW.2.2.2.2.2 hin (v := .long (f i.toNatClampNeg)) ?_ hdg kk
    rw [h _ (Nat.not_le.mp fun q => hin (Or.inr q))]
end HTR2
end
section
/-! The words of a call, all out of one list. -/
theorem ht_gv {own C : String} {idx : Nat} {y : MethodName} {ws : List Cond} (h1 : (.methodLink own idx y : Cond) ∈ bg) (h2 : (.instanceMethod y : Cond) ∈ bg) (h3 : (.selects C y y : Cond) ∈ bg) (h4 : (.initialized C : Cond) ∈ bg) (h : GoodIn bg ws) : GoodIn bg (wsV own idx C y ws) := by
  intro w hw
  rcases List.mem_append.mp hw with q | q
  · rcases List.mem_cons.mp q with rfl | q
    · exact bg_good _ h1
    · rcases List.mem_cons.mp q with rfl | q
      · exact bg_good _ h2
      · rcases List.mem_cons.mp q with rfl | q
        · exact bg_good _ h3
        · rw [List.mem_singleton.mp q]
          exact bg_good _ h4
  · exact h w q
theorem ht_gs {own : String} {idx : Nat} {y : MethodName} {ws : List Cond} (h1 : (.methodLink own idx y : Cond) ∈ bg) (h2 : (.static y : Cond) ∈ bg) (h3 : (.initialized y.cls : Cond) ∈ bg) (h : GoodIn bg ws) : GoodIn bg (va_wsS own idx y ws) := by
  intro w hw
  rcases List.mem_append.mp hw with q | q
  · rcases List.mem_cons.mp q with rfl | q
    · exact bg_good _ h1
    · rcases List.mem_cons.mp q with rfl | q
      · exact bg_good _ h2
      · rw [List.mem_singleton.mp q]
        exact bg_good _ h3
  · exact h w q
/-- what the machine makes of >>> and of a turn -/
def ht_us (x d : Int32) : Int32 := (x.toUInt32 >>> (d.toUInt32 &&& Int32.toUInt32 31)).toInt32
def ht_rr (x d : Int32) : Int32 := ht_us x d ||| (x <<< ((-d) &&& 31))
/-! THE DIGEST's block, as the class makes it: the words' row is spread, then mixed. -/
def ht_s0 (x : Int32) : Int32 := (ht_rr x 7 ^^^ ht_rr x 18) ^^^ ht_us x 3
def ht_s1 (x : Int32) : Int32 := (ht_rr x 17 ^^^ ht_rr x 19) ^^^ ht_us x 10
def ht_sp : Nat → (Nat → Int32) → Nat → Int32
  | 0, w => w
  | k + 1, w => upd (ht_sp k w) (16 + k) (((ht_sp k w k + ht_s0 (ht_sp k w (k + 1))) + ht_sp k w (k + 9)) + ht_s1 (ht_sp k w (k + 14)))
abbrev ht_O : Type := Int32 × Int32 × Int32 × Int32 × Int32 × Int32 × Int32 × Int32
def ht_xx (e f g h k w : Int32) : Int32 := (((h + ((ht_rr e 6 ^^^ ht_rr e 11) ^^^ ht_rr e 25)) + ((e &&& f) ^^^ ((e ^^^ (-1)) &&& g))) + k) + w
def ht_yy (a b c : Int32) : Int32 := ((ht_rr a 2 ^^^ ht_rr a 13) ^^^ ht_rr a 22) + (((a &&& b) ^^^ (a &&& c)) ^^^ (b &&& c))
def ht_r1 (k w : Int32) : ht_O → ht_O := fun o => match o with
  | (a, b, c, d, e, f, g, h) => (ht_xx e f g h k w + ht_yy a b c, a, b, c, d + ht_xx e f g h k w, e, f, g)
def ht_rn (w : Nat → Int32) (o : ht_O) : Nat → ht_O
  | 0 => o
  | k + 1 => ht_r1 (ht_k64.getD k 0) (w k) (ht_rn w o k)
def ht_o8 (ws : Nat → Int32) : ht_O := (ws 0, ws 1, ws 2, ws 3, ws 4, ws 5, ws 6, ws 7)
def ht_ad (ws : Nat → Int32) (o : ht_O) : Nat → Int32 := match o with
  | (a, b, c, d, e, f, g, h) => upd (upd (upd (upd (upd (upd (upd (upd ws 0 (ws 0 + a)) 1 (ws 1 + b)) 2 (ws 2 + c)) 3 (ws 3 + d)) 4 (ws 4 + e)) 5 (ws 5 + f)) 6 (ws 6 + g)) 7 (ws 7 + h)
/-- a block: w holds its sixteen words -/
def ht_bl (ws w : Nat → Int32) : Nat → Int32 := ht_ad ws (ht_rn (ht_sp 48 w) (ht_o8 ws) 64)
/-- the digester: words, row, length; a byte comes -/
abbrev ht_D : Type := (Nat → Int32) × (Nat → Int32) × Int32
def ht_pl (n : Int32) : Int32 := (n &&& 63) >>> ((2 : Int32) &&& 31)
def ht_tw (t : ht_D) (v : Int32) : Nat → Int32 := upd t.2.1 (ht_pl t.2.2).toNatClampNeg ((t.2.1 (ht_pl t.2.2).toNatClampNeg <<< ((8 : Int32) &&& 31)) ||| (v &&& 255))
def ht_tk (t : ht_D) (v : Int32) : ht_D := if (t.2.2 + 1) &&& 63 = 0 then (ht_bl t.1 (ht_tw t v), ht_sp 48 (ht_tw t v), t.2.2 + 1) else (t.1, ht_tw t v, t.2.2 + 1)
/-- the digester's three cells -/
def ht_dw (g : ht_G) (w : ht_W) (dg wd wa : Nat) (t : ht_D) : ht_W := ht_up (ht_up (ht_up w dg (.inr (1, [.ref wd, .ref wa, .int t.2.2]))) wd (ht_ai g 8 t.1)) wa (ht_ai g 64 t.2.1)
def ht_Dg (g : ht_G) (w : ht_W) (dg wd wa : Nat) (t : ht_D) : Prop := ht_at w dg (.inr (1, [.ref wd, .ref wa, .int t.2.2])) ∧ ht_at w wd (ht_ai g 8 t.1) ∧ ht_at w wa (ht_ai g 64 t.2.1)
theorem ht_ne_oi {ci n : Nat} {fs : List Value} {g : ht_G} {f : Nat → Int32} : (.inr (ci, fs) : va_E) ≠ ht_ai g n f := fun z => by cases z
theorem ht_ne_ii {n n' : Nat} {g : ht_G} {f f' : Nat → Int32} (h : n ≠ n') : ht_ai g n f ≠ ht_ai g n' f' := fun z => h (by injection z with z; injection z with z1 z2; injection z2)
theorem ht_Dg.n1 {g : ht_G} {w : ht_W} {dg wd wa : Nat} {t : ht_D} (h : ht_Dg g w dg wd wa t) : dg ≠ wd := ht_ne h.1 h.2.1 ht_ne_oi
theorem ht_Dg.n2 {g : ht_G} {w : ht_W} {dg wd wa : Nat} {t : ht_D} (h : ht_Dg g w dg wd wa t) : dg ≠ wa := ht_ne h.1 h.2.2 ht_ne_oi
theorem ht_Dg.n3 {g : ht_G} {w : ht_W} {dg wd wa : Nat} {t : ht_D} (h : ht_Dg g w dg wd wa t) : wd ≠ wa := ht_ne h.2.1 h.2.2 (ht_ne_ii (by decide))
theorem ht_Dg.self {g : ht_G} {w : ht_W} {dg wd wa : Nat} {t : ht_D} (h : ht_Dg g w dg wd wa t) : ht_dw g w dg wd wa t = w := by
  unfold ht_dw
  rw [ht_up_id h.1, ht_up_id h.2.1, ht_up_id h.2.2]
theorem ht_Dg.up {g : ht_G} {w : ht_W} {dg wd wa : Nat} {t t' : ht_D} (h : ht_Dg g w dg wd wa t) : ht_Dg g (ht_dw g w dg wd wa t') dg wd wa t' := by
  have n1 := h.n1
  have n2 := h.n2
  have n3 := h.n3
  unfold ht_dw
  exact ⟨ht_at_ne (ht_at_ne (ht_at_self h.1) n1) n2, ht_at_ne (ht_at_self (ht_at_ne h.2.1 n1.symm)) n3, ht_at_self (ht_at_ne (ht_at_ne h.2.2 n2.symm) n3.symm)⟩
theorem ht_Dg.dw {g : ht_G} {w : ht_W} {dg wd wa : Nat} {t t' t'' : ht_D} (h : ht_Dg g w dg wd wa t) : ht_dw g (ht_dw g w dg wd wa t') dg wd wa t'' = ht_dw g w dg wd wa t'' := by
  have n1 := h.n1
  have n2 := h.n2
  have n3 := h.n3
  unfold ht_dw
  rw [ht_up_comm n2.symm, ht_up_comm n1.symm, ht_up_up, ht_up_comm n3.symm, ht_up_up, ht_up_up]
theorem ht_Dg.ne {g : ht_G} {w : ht_W} {dg wd wa b : Nat} {t : ht_D} {e : va_E} (hb : ht_at w b e) (h1 : b ≠ dg) (h2 : b ≠ wd) (h3 : b ≠ wa) : ht_at (ht_dw g w dg wd wa t) b e := ht_at_ne (ht_at_ne (ht_at_ne hb h1) h2) h3
end
section
/-! System.arraycopy over the pool: from a static table, and from row to row. -/
section HTC
variable {p : Program} {l : Launch} {e : Env} {R : Room} {s : State} {m : MethodId} {args : Array Value} {below : List Frame} {meth : Method} {c : Code} {H : Heap} {locs : List Loc} {cells slots : Nat} {Q : State → Prop}
variable {cc : ByteArray} {pc : Nat} {ls : Array Slot} {rest : List Value} {g : ht_G} {w : ht_W} {a : Nat}
theorem ht_toNat {z : Int32} (h : ¬ z < 0) : z.toInt = (z.toNatClampNeg : Int) := by
  obtain ⟨j, hj, rfl⟩ := nI_of h
  rw [nI_toInt hj, nI_clamp hj]
theorem ht_cpt (hx : p.tables.exec = Jvm.exec) (hb : c.code = cc) (hml : c.maxLocals = ls.size) {own : String} {index : Nat} (hown : s.vm.findClass own = some m.cls) (hlink : (Cond.methodLink own index arraycopyName).before args s = true) (hnat : (Cond.native arraycopyName).before args s = true) (hstat : (Cond.static arraycopyName).before args s = true) (hini : (Cond.initialized "java/lang/System").before args s = true)
    (HW : ht_I g s w H locs) {t N n1 : Nat} {f f1 : Nat → Int32} (hT : va_T .int t N (fun j => .int (f j)) (ht_A g) s s.heap) (ha : ht_at w a (ht_ai g n1 f1)) {sp dp n : Int32} (h1 : ¬ sp < 0) (h2 : ¬ dp < 0) (h3 : ¬ n < 0) (h4 : sp.toNatClampNeg + n.toNatClampNeg ≤ N) (h5 : dp.toNatClampNeg + n.toNatClampNeg ≤ n1)
    (hframes : 1 ≤ R.frames) (hlocals : (rest.map fun v => v.category).sum + (nativeFrameWords "java/lang/System" "arraycopy" 5 + 11) ≤ R.locals) (hdg : decode cc pc = .ok (.invokestatic index, 3))
    (kk : ∀ (H1 : Heap) (locs1 : List Loc), ht_I g s (ht_up w a (ht_ai g n1 (va_cpy f f1 sp.toNatClampNeg dp.toNatClampNeg n.toNatClampNeg))) H1 locs1 → W p l e R s m args below meth c H1 locs1 cells slots Q (F0 m (pc + 3) ls rest)) : W p l e R s m args below meth c H locs cells slots Q (F0 m pc ls (.int n :: .int dp :: .ref a :: .int sp :: .ref t :: rest)) := by
  obtain ⟨z1, z2, z3, z4, z5, z6⟩ := id HW
  obtain ⟨cs, t1, ⟨t2, k0, hk0, cm0, hkk0⟩, t3, t4, t5, t6, t7⟩ := hT
  obtain ⟨q1, hq⟩ := ht_ix ha
  have hs : H[t]? = some cs := (z6.2.1 t (Array.getElem?_eq_some_iff.mp t1).1 t7).trans t1
  have hd : H[a]? = some (vp_cell (g.2.2.1 0) (n1, .inl f1)) := z4 q1 _ hq
  obtain ⟨-, k1, hk1, cm1, hkk1⟩ := (z2.2 0 _ rfl).1 n1 (fun j => .int (f1 j))
  have hval : ∀ i, i < n.toNatClampNeg → cs.slots.getD (sp.toNatClampNeg + i) .null = .int (f (sp.toNatClampNeg + i)) := fun i hi => by
    rw [Array.getD_eq_getD_getElem?, t6 _ (by omega)]
    rfl
  have hcp : copied cs (vp_cell (g.2.2.1 0) (n1, .inl f1)) sp dp n = vp_cell (g.2.2.1 0) (n1, .inl (va_cpy f f1 sp.toNatClampNeg dp.toNatClampNeg n.toNatClampNeg)) := va_copiedX (fun z => .int z) cs (g.2.2.1 0) f f1 t6 h4
  intro T hT X
  obtain ⟨vm', X', step⟩ := X.arraycopy hx hown hlink hnat hstat hini (src := t) (dst := a) (cs := cs) (cd := vp_cell (g.2.2.1 0) (n1, .inl f1)) (srcPos := sp) (destPos := dp) (n := n) (by rw [hT]; exact hs) (by rw [hT]; exact hd) t2 (fun _ h => by cases h) t3 (fun h => by cases h) hk0 hk1 hkk0 hkk1 (by simp [refKind]) h1 h2 h3
    (by rw [ht_toNat h1, ht_toNat h3]; omega) (by rw [ht_toNat h2, ht_toNat h3]; show ¬ _ > ((arrV (g.2.2.1 0) n1 (fun j => .int (f1 j))).slots.size : Int); rw [arrV_size]; omega)
    (fun vm₁ _ i hi => by rw [hval i hi]; exact ⟨rfl, trivial⟩)
    (g := F0 m pc ls (.int n :: .int dp :: .ref a :: .int sp :: .ref t :: rest)) rfl (by rw [hml]) (rest := rest) rfl (by rw [hb]; exact hdg) hframes (by show 2 * 0 + _ + _ ≤ _; omega)
  rw [hcp] at X' step
  have hlt : a < H.size := (Array.getElem?_eq_some_iff.mp hd).1
  generalize hNC : vp_cell (g.2.2.1 0) (n1, .inl (va_cpy f f1 sp.toNatClampNeg dp.toNatClampNeg n.toNatClampNeg)) = nc at X' step
  have hheap : ((T.setVm vm').setCell a nc).heap = H.setIfInBounds a nc := by rw [← hT]; rfl
  have oq : ∀ q : Nat, q ≠ a → (H.setIfInBounds a nc)[q]? = H[q]? := fun q hq => by simp [Array.getElem?_setIfInBounds, Ne.symm hq]
  have hself : (H.setIfInBounds a nc)[a]? = some nc := by simp [Array.getElem?_setIfInBounds, hlt]
  have hAa : ht_A g a := z5.2 q1 _ hq
  have hP1 := z4.set z5 hq (e := ht_ai g n1 (va_cpy f f1 sp.toNatClampNeg dp.toNatClampNeg n.toNatClampNeg)) (show (H.setIfInBounds a nc)[a]? = some _ by rw [hself, ← hNC]) oq
  have hD1 := z5.set (e := ht_ai g n1 (va_cpy f f1 sp.toNatClampNeg dp.toNatClampNeg n.toNatClampNeg)) hq
  rw [ht_set z5 ha hq] at hP1 hD1
  obtain ⟨tt, a1, b1⟩ := kk _ _ ⟨z1, z2, z3, hP1, hD1, by simp; exact z6.1, fun q g1 g2 => (oq q (fun e => g2 (by rw [e]; exact hAa))).trans (z6.2.1 q g1 g2), fun q hq' => by
      rcases List.mem_append.mp hq' with h | h
      · exact z6.2.2 q h
      · obtain ⟨z, -, hz⟩ := List.mem_map.mp h
        rw [← hz]
        exact hAa⟩ _ hheap X'
  exact ⟨tt, step tt a1, b1⟩
theorem ht_cpl (hx : p.tables.exec = Jvm.exec) (hb : c.code = cc) (hml : c.maxLocals = ls.size) {own : String} {index : Nat} (hown : s.vm.findClass own = some m.cls) (hlink : (Cond.methodLink own index arraycopyName).before args s = true) (hnat : (Cond.native arraycopyName).before args s = true) (hstat : (Cond.static arraycopyName).before args s = true) (hini : (Cond.initialized "java/lang/System").before args s = true)
    (HW : ht_I g s w H locs) {t n0 n1 : Nat} {f f1 : Nat → Int64} (hT : ht_at w t (ht_al g n0 f)) (ha : ht_at w a (ht_al g n1 f1)) {sp dp n : Int32} (h1 : ¬ sp < 0) (h2 : ¬ dp < 0) (h3 : ¬ n < 0) (h4 : sp.toNatClampNeg + n.toNatClampNeg ≤ n0) (h5 : dp.toNatClampNeg + n.toNatClampNeg ≤ n1)
    (hframes : 1 ≤ R.frames) (hlocals : (rest.map fun v => v.category).sum + (nativeFrameWords "java/lang/System" "arraycopy" 5 + 11) ≤ R.locals) (hdg : decode cc pc = .ok (.invokestatic index, 3))
    (kk : ∀ (H1 : Heap) (locs1 : List Loc), ht_I g s (ht_up w a (ht_al g n1 (va_cpy f f1 sp.toNatClampNeg dp.toNatClampNeg n.toNatClampNeg))) H1 locs1 → W p l e R s m args below meth c H1 locs1 cells slots Q (F0 m (pc + 3) ls rest)) : W p l e R s m args below meth c H locs cells slots Q (F0 m pc ls (.int n :: .int dp :: .ref a :: .int sp :: .ref t :: rest)) := by
  obtain ⟨q0, hq0⟩ := ht_ix hT
  obtain ⟨q1, hq⟩ := ht_ix ha
  have hD := HW.2.2.2.2.1
  refine va_copyl hx hb hml hown hlink hnat hstat hini HW.2.1 HW.2.2.2.1 hD HW.2.2.2.2.2 q0 q1 1 1 hq0 hq rfl rfl (by rfl) h1 h2 h3 h4 h5 ?_ hframes hlocals hdg (fun H1 locs1 hP1 hD1 hS1 => ?_)
  · exact fun i hi => rfl
  · rw [ht_set hD ha hq] at hP1 hD1
    exact kk H1 locs1 ⟨HW.1, HW.2.1, HW.2.2.1, hP1, hD1, hS1⟩
end HTC
end
section
/-! Keys, their bits, the level at which two part; the hash of a list of (key, value) by levels. -/
abbrev ht_K : Type := Int64 × Int64 × Int64 × Int64
def ht_kf (k : ht_K) : Nat → Int64 := fun j => if j = 0 then k.1 else if j = 1 then k.2.1 else if j = 2 then k.2.2.1 else k.2.2.2
def ht_kz : ht_K := (0, 0, 0, 0)
/-- bit d of a key, from the highest on -/
def ht_bit (k : ht_K) (d : Nat) : Bool := (ht_kf k (d / 64)).toBitVec.getMsbD (d % 64)
theorem ht_kf_ext {k k' : ht_K} (h : ∀ j, j < 4 → ht_kf k j = ht_kf k' j) : k = k' := by
  obtain ⟨a, b, c, d⟩ := k
  obtain ⟨a', b', c', d'⟩ := k'
  have h0 : a = a' := h 0 (by decide)
  have h1 : b = b' := h 1 (by decide)
  have h2 : c = c' := h 2 (by decide)
  have h3 : d = d' := h 3 (by decide)
  rw [h0, h1, h2, h3]
theorem ht_bit_ext {k k' : ht_K} (h : ∀ d, d < 256 → ht_bit k d = ht_bit k' d) : k = k' := by
  refine ht_kf_ext (fun j hj => ?_)
  apply Int64.toBitVec_inj.mp
  apply BitVec.eq_of_getMsbD_eq
  intro i hi
  have h1 := h (64 * j + i) (by omega)
  unfold ht_bit at h1
  have e1 : (64 * j + i) / 64 = j := by omega
  have e2 : (64 * j + i) % 64 = i := by omega
  rw [e1, e2] at h1
  exact h1
def ht_ag (k k' : ht_K) (d : Nat) : Prop := ∀ j, j < d → ht_bit k j = ht_bit k' j
theorem ht_ag_refl (k : ht_K) (d : Nat) : ht_ag k k d := fun _ _ => rfl
theorem ht_ag_symm {k k' : ht_K} {d : Nat} (h : ht_ag k k' d) : ht_ag k' k d := fun j hj => (h j hj).symm
theorem ht_ag_trans {k k' k'' : ht_K} {d : Nat} (h : ht_ag k k' d) (h' : ht_ag k' k'' d) : ht_ag k k'' d := fun j hj => (h j hj).trans (h' j hj)
theorem ht_ag_le {k k' : ht_K} {d d' : Nat} (h : ht_ag k k' d) (hd : d' ≤ d) : ht_ag k k' d' := fun j hj => h j (Nat.lt_of_lt_of_le hj hd)
theorem ht_ag_s {k k' : ht_K} {d : Nat} (h : ht_ag k k' d) (hb : ht_bit k d = ht_bit k' d) : ht_ag k k' (d + 1) := by
  intro j hj
  rcases Nat.lt_or_ge j d with q | q
  · exact h j q
  · have : j = d := by omega
    subst this
    exact hb
/-- the first level, from d on, at which two keys differ -/
def ht_pa (k k' : ht_K) : Nat → Nat → Nat
  | 0, d => d
  | n + 1, d => if ht_bit k d = ht_bit k' d then ht_pa k k' n (d + 1) else d
def ht_part (k k' : ht_K) : Nat := ht_pa k k' 256 0
theorem ht_pa_spec (k k' : ht_K) : ∀ n d, d ≤ ht_pa k k' n d ∧ ht_pa k k' n d ≤ d + n ∧ (∀ j, d ≤ j → j < ht_pa k k' n d → ht_bit k j = ht_bit k' j) ∧ (ht_pa k k' n d < d + n → ht_bit k (ht_pa k k' n d) ≠ ht_bit k' (ht_pa k k' n d)) := by
  intro n
  induction n with
  | zero => intro d; exact ⟨Nat.le_refl _, Nat.le_refl _, fun j h1 h2 => by simp only [ht_pa] at h2; omega, fun h => by simp only [ht_pa] at h; omega⟩
  | succ n ih =>
    intro d
    obtain ⟨h1, h2, h3, h4⟩ := ih (d + 1)
    unfold ht_pa
    by_cases hb : ht_bit k d = ht_bit k' d
    · rw [if_pos hb]
      refine ⟨by omega, by omega, fun j q1 q2 => ?_, fun q => h4 (by omega)⟩
      rcases Nat.eq_or_lt_of_le q1 with e | e
      · rw [← e]; exact hb
      · exact h3 j e q2
    · rw [if_neg hb]
      exact ⟨Nat.le_refl _, by omega, fun j q1 q2 => by omega, fun _ => hb⟩
theorem ht_part_le (k k' : ht_K) : ht_part k k' ≤ 256 := by
  have := (ht_pa_spec k k' 256 0).2.1
  unfold ht_part; omega
theorem ht_part_ag (k k' : ht_K) : ht_ag k k' (ht_part k k') := fun j hj => (ht_pa_spec k k' 256 0).2.2.1 j (Nat.zero_le _) hj
theorem ht_part_ne {k k' : ht_K} (h : ht_part k k' < 256) : ht_bit k (ht_part k k') ≠ ht_bit k' (ht_part k k') := (ht_pa_spec k k' 256 0).2.2.2 (by unfold ht_part at h; omega)
theorem ht_part_eq {k k' : ht_K} : ht_part k k' = 256 ↔ k = k' := by
  constructor
  · intro h
    exact ht_bit_ext (fun d hd => ht_part_ag k k' d (by rw [h]; exact hd))
  · intro h
    subst h
    rcases Nat.lt_or_ge (ht_part k k) 256 with q | q
    · exact absurd rfl (ht_part_ne q)
    · exact Nat.le_antisymm (ht_part_le k k) q
theorem ht_part_is {k k' : ht_K} {p : Nat} (hp : p ≤ 256) (ha : ht_ag k k' p) (hn : p < 256 → ht_bit k p ≠ ht_bit k' p) : ht_part k k' = p := by
  rcases Nat.lt_trichotomy (ht_part k k') p with h | h | h
  · exact absurd (ha _ h) (ht_part_ne (by omega))
  · exact h
  · exact absurd (ht_part_ag k k' p h) (hn (Nat.lt_of_lt_of_le h (ht_part_le k k')))
theorem ht_ag_part {k k' : ht_K} {d : Nat} (hd : d ≤ 256) : ht_ag k k' d ↔ d ≤ ht_part k k' := by
  constructor
  · intro h
    rcases Nat.lt_or_ge (ht_part k k') d with q | q
    · exact absurd (h _ q) (ht_part_ne (by omega))
    · exact q
  · intro h
    exact ht_ag_le (ht_part_ag k k') h
theorem ht_part_comm (k k' : ht_K) : ht_part k k' = ht_part k' k :=
  ht_part_is (ht_part_le k' k) (ht_ag_symm (ht_part_ag k' k)) (fun h => (ht_part_ne h).symm)
section HASH
variable (dg : Int32 → ht_K → ht_K → ht_K)
/-- the hash at level 256 - n -/
def ht_h : Nat → List (ht_K × ht_K) → ht_K
  | _, [] => ht_kz
  | _, [q] => dg 0 q.1 q.2
  | 0, _ => ht_kz
  | n + 1, l => dg 1 (ht_h n (l.filter (fun q => !ht_bit q.1 (255 - n)))) (ht_h n (l.filter (fun q => ht_bit q.1 (255 - n))))
theorem ht_h_nil (n : Nat) : ht_h dg n [] = ht_kz := by cases n <;> rfl
theorem ht_h_one (n : Nat) (q : ht_K × ht_K) : ht_h dg n [q] = dg 0 q.1 q.2 := by cases n <;> rfl
theorem ht_h_more (n : Nat) {l : List (ht_K × ht_K)} (h : 2 ≤ l.length) : ht_h dg (n + 1) l = dg 1 (ht_h dg n (l.filter (fun q => !ht_bit q.1 (255 - n)))) (ht_h dg n (l.filter (fun q => ht_bit q.1 (255 - n)))) := by
  match l, h with
  | a :: b :: t, _ => rfl
theorem ht_h_zero {l : List (ht_K × ht_K)} (h : 2 ≤ l.length) : ht_h dg 0 l = ht_kz := by
  match l, h with
  | a :: b :: t, _ => rfl
theorem ht_h_perm : ∀ (n : Nat) {l l' : List (ht_K × ht_K)}, l.Perm l' → ht_h dg n l = ht_h dg n l' := by
  intro n
  induction n with
  | zero =>
    intro l l' h
    match l, h with
    | [], h => rw [h.nil_eq]
    | [q], h => rw [List.perm_singleton.mp h.symm]
    | a :: b :: t, h =>
      rw [ht_h_zero dg (by simp), ht_h_zero dg (by rw [← h.length_eq]; simp)]
  | succ n ih =>
    intro l l' h
    match l, h with
    | [], h => rw [h.nil_eq]
    | [q], h => rw [List.perm_singleton.mp h.symm]
    | a :: b :: t, h =>
      rw [ht_h_more dg n (l := a :: b :: t) (by simp), ht_h_more dg n (l := l') (by rw [← h.length_eq]; simp), ih (h.filter _), ih (h.filter _)]
/-- all keys go the same way at this level -/
theorem ht_h_side (n : Nat) {l : List (ht_K × ht_K)} (h : 2 ≤ l.length) (b : Bool) (hb : ∀ q ∈ l, ht_bit q.1 (255 - n) = b) : ht_h dg (n + 1) l = if b then dg 1 ht_kz (ht_h dg n l) else dg 1 (ht_h dg n l) ht_kz := by
  rw [ht_h_more dg n h]
  cases b with
  | true =>
    rw [List.filter_eq_nil_iff.mpr (fun q hq => by rw [hb q hq]; decide), List.filter_eq_self.mpr (fun q hq => hb q hq), ht_h_nil]
    rfl
  | false =>
    rw [List.filter_eq_self.mpr (fun q hq => by rw [hb q hq]; rfl), List.filter_eq_nil_iff.mpr (fun q hq => by rw [hb q hq]; decide), ht_h_nil]
    rfl
end HASH
end
section
/-! The tree of branches, by conditions that each node meets by itself: no recursion. -/
/-- a node: key, level, hash, fresh, and a value or two halves -/
abbrev ht_R : Type := ht_K × Nat × ht_K × Bool × (ht_K ⊕ (Nat × Nat))
abbrev ht_N : Type := Nat → ht_R
def ht_rk (r : ht_R) : ht_K := r.1
def ht_rl (r : ht_R) : Nat := r.2.1
def ht_rh (r : ht_R) : ht_K := r.2.2.1
def ht_rf (r : ht_R) : Bool := r.2.2.2.1
def ht_rp (r : ht_R) : ht_K ⊕ (Nat × Nat) := r.2.2.2.2
abbrev ht_L : Type := List (ht_K × ht_K)
/-- a key goes under a node -/
def ht_in (N : ht_N) (a : Nat) (k : ht_K) : Prop := ht_rl (N a) ≤ ht_part (ht_rk (N a)) k
def ht_U (N : ht_N) (l : ht_L) (a : Nat) : ht_L := l.filter (fun q => decide (ht_rl (N a) ≤ ht_part (ht_rk (N a)) q.1))
def ht_half (N : ht_N) (l : ht_L) (a z : Nat) (b : Bool) : Prop := ht_rl (N a) < ht_rl (N z) ∧ ∀ q ∈ l, (ht_in N a q.1 ∧ ht_bit q.1 (ht_rl (N a)) = b) ↔ ht_in N z q.1
/-- the half of a branch at which a key goes -/
def ht_ch (zo : Nat × Nat) (b : Bool) : Nat := if b then zo.2 else zo.1
def ht_T1 (N : ht_N) (F : List Nat) (l : ht_L) : Prop := ∀ a ∈ F, ∀ v, ht_rp (N a) = .inl v → ht_rl (N a) = 256 ∧ (ht_rk (N a), v) ∈ l
def ht_T2 (N : ht_N) (F : List Nat) (l : ht_L) : Prop := ∀ q ∈ l, ∃ a ∈ F, ht_rp (N a) = .inl q.2 ∧ ht_rk (N a) = q.1
def ht_T3 (N : ht_N) (F : List Nat) (l : ht_L) : Prop := ∀ a ∈ F, ∀ zo, ht_rp (N a) = .inr zo → ht_rl (N a) < 256 ∧ ∀ b, ht_ch zo b ∈ F ∧ ht_half N l a (ht_ch zo b) b
def ht_T4 (N : ht_N) (F : List Nat) : Prop := ∀ a ∈ F, ∀ b ∈ F, ht_rl (N a) = ht_rl (N b) → ht_in N a (ht_rk (N b)) → a = b
def ht_T5 (N : ht_N) (F : List Nat) (l : ht_L) : Prop := ∀ a ∈ F, ∃ q ∈ l, ht_in N a q.1
def ht_T0 (N : ht_N) (F : List Nat) (top : Option Nat) (l : ht_L) : Prop := (∀ t, top = some t → t ∈ F ∧ ∀ q ∈ l, ht_in N t q.1) ∧ (top = none → F = [] ∧ l = [])
def ht_T (N : ht_N) (F : List Nat) (top : Option Nat) (l : ht_L) : Prop := F.Nodup ∧ (l.map (·.1)).Nodup ∧ ht_T0 N F top l ∧ ht_T1 N F l ∧ ht_T2 N F l ∧ ht_T3 N F l ∧ ht_T4 N F ∧ ht_T5 N F l
theorem ht_T.lv {N : ht_N} {F : List Nat} {top : Option Nat} {l : ht_L} (h : ht_T N F top l) {a : Nat} (ha : a ∈ F) : ht_rl (N a) ≤ 256 := by
  obtain ⟨-, -, -, h1, -, h3, -⟩ := h
  cases hp : ht_rp (N a) with
  | inl v => exact Nat.le_of_eq (h1 a ha v hp).1
  | inr zo => exact Nat.le_of_lt (h3 a ha zo hp).1
theorem ht_T.half {N : ht_N} {F : List Nat} {top : Option Nat} {l : ht_L} (h : ht_T N F top l) {a : Nat} (ha : a ∈ F) {zo : Nat × Nat} (hp : ht_rp (N a) = .inr zo) (b : Bool) : ht_ch zo b ∈ F ∧ ht_rl (N a) < 256 ∧ ht_half N l a (ht_ch zo b) b := by
  obtain ⟨-, -, -, -, -, h3, -⟩ := h
  obtain ⟨q1, q2⟩ := h3 a ha zo hp
  exact ⟨(q2 b).1, q1, (q2 b).2⟩
theorem ht_in_ag {N : ht_N} {a : Nat} {k : ht_K} (hl : ht_rl (N a) ≤ 256) : ht_in N a k ↔ ht_ag (ht_rk (N a)) k (ht_rl (N a)) := (ht_ag_part hl).symm
/-- both sides of a branch have keys -/
theorem ht_T.side {N : ht_N} {F : List Nat} {top : Option Nat} {l : ht_L} (h : ht_T N F top l) {a : Nat} (ha : a ∈ F) {zo : Nat × Nat} (hp : ht_rp (N a) = .inr zo) (b : Bool) : ∃ q ∈ l, ht_in N a q.1 ∧ ht_bit q.1 (ht_rl (N a)) = b ∧ ht_in N (ht_ch zo b) q.1 := by
  obtain ⟨q1, -, q3⟩ := h.half ha hp b
  obtain ⟨-, -, -, -, -, -, -, h5⟩ := h
  obtain ⟨q, hq, hi⟩ := h5 _ q1
  obtain ⟨x, y⟩ := (q3.2 q hq).mpr hi
  exact ⟨q, hq, x, y, hi⟩
/-- two keys under a node agree in the bits before its level -/
theorem ht_T.two {N : ht_N} {F : List Nat} {top : Option Nat} {l : ht_L} (h : ht_T N F top l) {a : Nat} (ha : a ∈ F) {k k' : ht_K} (hk : ht_in N a k) (hk' : ht_in N a k') : ht_ag k k' (ht_rl (N a)) :=
  ht_ag_trans (ht_ag_symm ((ht_in_ag (h.lv ha)).mp hk)) ((ht_in_ag (h.lv ha)).mp hk')
theorem ht_T.up {N : ht_N} {F : List Nat} {top : Option Nat} {l : ht_L} (h : ht_T N F top l) {a : Nat} (ha : a ∈ F) {k k' : ht_K} (hk : ht_in N a k) (hg : ht_ag k k' (ht_rl (N a))) : ht_in N a k' :=
  (ht_in_ag (h.lv ha)).mpr (ht_ag_trans ((ht_in_ag (h.lv ha)).mp hk) hg)
/-- no node stands between a branch and its half, on a key's way -/
theorem ht_T.nojump {N : ht_N} {F : List Nat} {top : Option Nat} {l : ht_L} (h : ht_T N F top l) {a c : Nat} (ha : a ∈ F) (hc : c ∈ F) {zo : Nat × Nat} (hp : ht_rp (N c) = .inr zo) {k : ht_K} (hk : ht_in N c k) (hka : ht_in N a k) (hlt : ht_rl (N c) < ht_rl (N a)) : ht_rl (N (ht_ch zo (ht_bit k (ht_rl (N c))))) ≤ ht_rl (N a) := by
  obtain ⟨z1, z2, z3⟩ := h.half hc hp (ht_bit k (ht_rl (N c)))
  cases hpa : ht_rp (N a) with
  | inl v =>
    rw [(h.2.2.2.1 a ha v hpa).1]
    exact h.lv z1
  | inr zo' =>
    obtain ⟨q0, m0, i0, b0, -⟩ := h.side ha hpa false
    obtain ⟨q1, m1, i1, b1, -⟩ := h.side ha hpa true
    have g0 := h.two ha hka i0
    have g1 := h.two ha hka i1
    have j0 := (z3.2 q0 m0).mp ⟨h.up hc hk (ht_ag_le g0 (Nat.le_of_lt hlt)), (g0 _ hlt).symm⟩
    have j1 := (z3.2 q1 m1).mp ⟨h.up hc hk (ht_ag_le g1 (Nat.le_of_lt hlt)), (g1 _ hlt).symm⟩
    have g := h.two z1 j0 j1
    rcases Nat.lt_or_ge (ht_rl (N a)) (ht_rl (N (ht_ch zo (ht_bit k (ht_rl (N c)))))) with q | q
    · have := g _ q
      rw [b0, b1] at this
      cases this
    · exact q
theorem ht_T.same {N : ht_N} {F : List Nat} {top : Option Nat} {l : ht_L} (h : ht_T N F top l) {a c : Nat} (ha : a ∈ F) (hc : c ∈ F) {k : ht_K} (hk : ht_in N c k) (hka : ht_in N a k) (hl : ht_rl (N a) = ht_rl (N c)) : a = c := by
  refine h.2.2.2.2.2.2.1 a ha c hc hl ?_
  refine h.up ha hka ?_
  rw [hl]
  exact ht_ag_symm ((ht_in_ag (h.lv hc)).mp hk)
/-- the best of all keys lie under a node -/
def ht_best (N : ht_N) (l : ht_L) (k : ht_K) (a : Nat) : Prop := ∀ q ∈ l, ∃ q' ∈ l, ht_in N a q'.1 ∧ ht_part k q.1 ≤ ht_part k q'.1
theorem ht_T.best0 {N : ht_N} {F : List Nat} {l : ht_L} {t : Nat} (h : ht_T N F (some t) l) (k : ht_K) : ht_best N l k t := fun q hq => ⟨q, hq, (h.2.2.1.1 t rfl).2 q hq, Nat.le_refl _⟩
theorem ht_T.bestS {N : ht_N} {F : List Nat} {top : Option Nat} {l : ht_L} (h : ht_T N F top l) {a : Nat} (ha : a ∈ F) {zo : Nat × Nat} (hp : ht_rp (N a) = .inr zo) {k : ht_K} (hb : ht_best N l k a) : ht_best N l k (ht_ch zo (ht_bit k (ht_rl (N a)))) := by
  intro q hq
  obtain ⟨q', hq', i', le'⟩ := hb q hq
  obtain ⟨z1, z2, z3⟩ := h.half ha hp (ht_bit k (ht_rl (N a)))
  by_cases e : ht_bit q'.1 (ht_rl (N a)) = ht_bit k (ht_rl (N a))
  · exact ⟨q', hq', (z3.2 q' hq').mp ⟨i', e⟩, le'⟩
  · obtain ⟨q2, m2, i2, b2, j2⟩ := h.side ha hp (ht_bit k (ht_rl (N a)))
    refine ⟨q2, m2, j2, Nat.le_trans le' ?_⟩
    have hle : ht_part k q'.1 ≤ ht_rl (N a) := by
      rcases Nat.lt_or_ge (ht_rl (N a)) (ht_part k q'.1) with x | x
      · exact absurd (ht_part_ag k q'.1 _ x).symm e
      · exact x
    refine (ht_ag_part (ht_part_le _ _)).mp ?_
    exact ht_ag_trans (ht_part_ag k q'.1) (ht_ag_le (h.two ha i' i2) hle)
theorem ht_T.bestE {N : ht_N} {F : List Nat} {top : Option Nat} {l : ht_L} (h : ht_T N F top l) {a : Nat} (ha : a ∈ F) {v : ht_K} (hp : ht_rp (N a) = .inl v) {k : ht_K} (hb : ht_best N l k a) : ∀ q ∈ l, ht_part k q.1 ≤ ht_part k (ht_rk (N a)) := by
  intro q hq
  obtain ⟨q', hq', i', le'⟩ := hb q hq
  have e : ht_rk (N a) = q'.1 := by
    have h1 := (h.2.2.2.1 a ha v hp).1
    refine ht_part_eq.mp (Nat.le_antisymm (ht_part_le _ _) ?_)
    have i2 : ht_rl (N a) ≤ ht_part (ht_rk (N a)) q'.1 := i'
    rw [h1] at i2
    exact i2
  rw [e]
  exact le'
theorem ht_T.parentL {N : ht_N} {F : List Nat} {top : Option Nat} {l : ht_L} (h : ht_T N F top l) {a c : Nat} (ha : a ∈ F) (hc : c ∈ F) {zo zo' : Nat × Nat} (hp : ht_rp (N a) = .inr zo) (hp' : ht_rp (N c) = .inr zo') {b b' : Bool} (he : ht_ch zo b = ht_ch zo' b') : ¬ ht_rl (N a) < ht_rl (N c) := by
  intro hlt
  obtain ⟨q, hq, i1, b1, j1⟩ := h.side ha hp b
  obtain ⟨z1, z2, z3⟩ := h.half ha hp b
  obtain ⟨y1, y2, y3⟩ := h.half hc hp' b'
  obtain ⟨q', hq', i2, b2, j2⟩ := h.side hc hp' (!b')
  have ic : ht_in N c q.1 ∧ ht_bit q.1 (ht_rl (N c)) = b' := (y3.2 q hq).mpr (he ▸ j1)
  have g := h.two hc ic.1 i2
  have ia : ht_in N a q'.1 := h.up ha i1 (ht_ag_le g (Nat.le_of_lt hlt))
  have jz := (z3.2 q' hq').mp ⟨ia, by rw [← g _ hlt]; exact b1⟩
  have g2 := h.two z1 j1 jz
  have e := g2 _ (by rw [he]; exact y3.1)
  rw [ic.2, b2] at e
  cases b' <;> cases e
/-- a node has one parent -/
theorem ht_T.parent {N : ht_N} {F : List Nat} {top : Option Nat} {l : ht_L} (h : ht_T N F top l) {a c : Nat} (ha : a ∈ F) (hc : c ∈ F) {zo zo' : Nat × Nat} (hp : ht_rp (N a) = .inr zo) (hp' : ht_rp (N c) = .inr zo') {b b' : Bool} (he : ht_ch zo b = ht_ch zo' b') : a = c := by
  have e : ht_rl (N a) = ht_rl (N c) := Nat.le_antisymm (Nat.not_lt.mp (h.parentL hc ha hp' hp he.symm)) (Nat.not_lt.mp (h.parentL ha hc hp hp' he))
  obtain ⟨q, hq, i1, b1, j1⟩ := h.side ha hp b
  obtain ⟨y1, y2, y3⟩ := h.half hc hp' b'
  exact h.same ha hc ((y3.2 q hq).mpr (he ▸ j1)).1 i1 e
/-- the top is nobody's half -/
theorem ht_T.noparent {N : ht_N} {F : List Nat} {l : ht_L} {t : Nat} (h : ht_T N F (some t) l) {a : Nat} (ha : a ∈ F) {zo : Nat × Nat} (hp : ht_rp (N a) = .inr zo) {b : Bool} : ht_ch zo b ≠ t := by
  intro e
  obtain ⟨q, hq, i1, b1, j1⟩ := h.side ha hp (!b)
  obtain ⟨z1, z2, z3⟩ := h.half ha hp b
  have := ((z3.2 q hq).mpr (by rw [e]; exact (h.2.2.1.1 t rfl).2 q hq)).2
  rw [b1] at this
  cases b <;> cases this
/-- the top stands above all -/
theorem ht_T.topL {N : ht_N} {F : List Nat} {l : ht_L} {t : Nat} (h : ht_T N F (some t) l) {a : Nat} (ha : a ∈ F) : ht_rl (N t) ≤ ht_rl (N a) := by
  obtain ⟨ht, hall⟩ := h.2.2.1.1 t rfl
  cases hpa : ht_rp (N a) with
  | inl v =>
    rw [(h.2.2.2.1 a ha v hpa).1]
    exact h.lv ht
  | inr zo' =>
    obtain ⟨q0, m0, i0, b0, -⟩ := h.side ha hpa false
    obtain ⟨q1, m1, i1, b1, -⟩ := h.side ha hpa true
    have g := h.two ht (hall q0 m0) (hall q1 m1)
    rcases Nat.lt_or_ge (ht_rl (N a)) (ht_rl (N t)) with q | q
    · have := g _ q
      rw [b0, b1] at this
      cases this
    · exact q
end
section
/-! Where a key's way leaves the tree at level p: between the branch ab (or the top) and the node be. -/
def ht_slot (N : ht_N) (F : List Nat) (top : Option Nat) (k : ht_K) (p : Nat) (ab : Option Nat) (be : Nat) : Prop :=
  be ∈ F ∧ p ≤ ht_rl (N be) ∧ ((ab = none ∧ top = some be) ∨ ∃ c zo, ab = some c ∧ c ∈ F ∧ ht_in N c k ∧ ht_rl (N c) < p ∧ ht_rp (N c) = .inr zo ∧ ht_ch zo (ht_bit k (ht_rl (N c))) = be)
theorem ht_slot.into {N : ht_N} {F : List Nat} {top : Option Nat} {l : ht_L} {k : ht_K} {p : Nat} {ab : Option Nat} {be : Nat} (h : ht_T N F top l) (hs : ht_slot N F top k p ab be) {q : ht_K × ht_K} (hq : q ∈ l) (hp : p ≤ ht_part k q.1) : ht_in N be q.1 := by
  obtain ⟨h1, h2, ⟨-, h3⟩ | ⟨c, zo, -, hc, hi, hl, hz, he⟩⟩ := hs
  · exact (h.2.2.1.1 be h3).2 q hq
  · obtain ⟨z1, z2, z3⟩ := h.half hc hz (ht_bit k (ht_rl (N c)))
    have g : ht_ag k q.1 p := ht_ag_le (ht_part_ag k q.1) hp
    rw [← he]
    exact (z3.2 q hq).mp ⟨h.up hc hi (ht_ag_le g (Nat.le_of_lt hl)), (g _ hl).symm⟩
theorem ht_slot.gt {N : ht_N} {F : List Nat} {top : Option Nat} {l : ht_L} {k : ht_K} {p : Nat} {ab : Option Nat} {be : Nat} (h : ht_T N F top l) (hs : ht_slot N F top k p ab be) (hp : p < 256) (hmax : ∀ q ∈ l, ht_part k q.1 ≤ p) {qs : ht_K × ht_K} (hqs : qs ∈ l) (hqp : ht_part k qs.1 = p) : p < ht_rl (N be) ∧ ¬ ht_in N be k ∧ ∀ q ∈ l, ht_in N be q.1 ↔ p ≤ ht_part k q.1 := by
  have is := hs.into h hqs (Nat.le_of_eq hqp.symm)
  have hbe := hs.1
  have gs : ht_ag k qs.1 p := by rw [← hqp]; exact ht_part_ag k qs.1
  have hlt : p < ht_rl (N be) := by
    rcases Nat.lt_or_ge p (ht_rl (N be)) with x | x
    · exact x
    · exfalso
      have e : ht_rl (N be) = p := Nat.le_antisymm x hs.2.1
      cases hpb : ht_rp (N be) with
      | inl v => have := (h.2.2.2.1 be hbe v hpb).1; omega
      | inr zo =>
        obtain ⟨qb, mb, ib, bb, -⟩ := h.side hbe hpb (ht_bit k p)
        rw [e] at bb
        have g2 := h.two hbe is ib
        rw [e] at g2
        have g3 : ht_ag k qb.1 (p + 1) := ht_ag_s (ht_ag_trans gs g2) bb.symm
        have := (ht_ag_part (by omega)).mp g3
        have := hmax qb mb
        omega
  have key : ∀ k', ht_in N be k' → ht_ag qs.1 k' (p + 1) := fun k' hk' => ht_ag_le (h.two hbe is hk') hlt
  refine ⟨hlt, fun hk => ?_, fun q hq => ⟨fun hi => ?_, fun hi => hs.into h hq hi⟩⟩
  · have := (ht_ag_part (by omega)).mp (ht_ag_symm (key k hk))
    omega
  · exact (ht_ag_part (by omega)).mp (ht_ag_trans gs (ht_ag_le (key q.1 hi) (Nat.le_succ p)))
/-- on a branch that is not the one above the slot, the new key goes to a half only if it goes under it -/
theorem ht_slot.pass {N : ht_N} {F : List Nat} {top : Option Nat} {l : ht_L} {k : ht_K} {p : Nat} {ab : Option Nat} {be : Nat} (h : ht_T N F top l) (hs : ht_slot N F top k p ab be) (hp : p < 256) (hmax : ∀ q ∈ l, ht_part k q.1 ≤ p) {qs : ht_K × ht_K} (hqs : qs ∈ l) (hqp : ht_part k qs.1 = p) {a : Nat} (ha : a ∈ F) (hna : ab ≠ some a) {zo : Nat × Nat} (hz : ht_rp (N a) = .inr zo) (hi : ht_in N a k) : ht_in N (ht_ch zo (ht_bit k (ht_rl (N a)))) k := by
  obtain ⟨hlt, hnk, hall⟩ := hs.gt h hp hmax hqs hqp
  have gs : ht_ag k qs.1 p := by rw [← hqp]; exact ht_part_ag k qs.1
  obtain ⟨z1, z2, z3⟩ := h.half ha hz (ht_bit k (ht_rl (N a)))
  obtain ⟨qz, mz, iz, bz, jz⟩ := h.side ha hz (ht_bit k (ht_rl (N a)))
  have gz : ht_ag k qz.1 (ht_rl (N a) + 1) := ht_ag_s (h.two ha hi iz) bz.symm
  have hap : ht_rl (N a) < p := by
    have := (ht_ag_part (by omega)).mp gz
    have := hmax qz mz
    omega
  rcases Nat.lt_or_ge p (ht_rl (N (ht_ch zo (ht_bit k (ht_rl (N a)))))) with x | x
  · exfalso
    obtain ⟨h1, h2, ⟨hab, h3⟩ | ⟨c, zc, hab, hc, hic, hlc, hzc, he⟩⟩ := hs
    · subst h3
      have := h.topL ha
      omega
    · rcases Nat.lt_trichotomy (ht_rl (N a)) (ht_rl (N c)) with y | y | y
      · have := h.nojump hc ha hz hi hic y
        omega
      · exact hna (by rw [hab, h.same ha hc hic hi y])
      · have := h.nojump ha hc hzc hic hi y
        rw [he] at this
        omega
  · have js := (z3.2 qs hqs).mp ⟨h.up ha hi (ht_ag_le gs (Nat.le_of_lt hap)), (gs _ hap).symm⟩
    exact h.up z1 js (ht_ag_symm (ht_ag_le gs x))
/-- what goes under a half goes under its branch, on that side -/
theorem ht_T.back {N : ht_N} {F : List Nat} {top : Option Nat} {l : ht_L} (h : ht_T N F top l) {a : Nat} (ha : a ∈ F) {zo : Nat × Nat} (hp : ht_rp (N a) = .inr zo) (b : Bool) {k : ht_K} (hk : ht_in N (ht_ch zo b) k) : ht_in N a k ∧ ht_bit k (ht_rl (N a)) = b := by
  obtain ⟨z1, z2, z3⟩ := h.half ha hp b
  obtain ⟨q, hq, i1, b1, j1⟩ := h.side ha hp b
  have g := h.two z1 j1 hk
  exact ⟨h.up ha i1 (ht_ag_le g (Nat.le_of_lt z3.1)), by rw [← g _ z3.1]; exact b1⟩
def ht_zo (zo : Nat × Nat) (b : Bool) (x : Nat) : Nat × Nat := if b then (zo.1, x) else (x, zo.2)
theorem ht_zo_self (zo : Nat × Nat) (b : Bool) (x : Nat) : ht_ch (ht_zo zo b x) b = x := by cases b <;> rfl
theorem ht_zo_other (zo : Nat × Nat) (b : Bool) (x : Nat) : ht_ch (ht_zo zo b x) (!b) = ht_ch zo (!b) := by cases b <;> rfl
theorem ht_T.insert {N N' : ht_N} {F : List Nat} {top : Option Nat} {l : ht_L} {k v : ht_K} {p : Nat} {ab : Option Nat} {be m B : Nat} (h : ht_T N F top l) (hs : ht_slot N F top k p ab be) (hp : p < 256) (hmax : ∀ q ∈ l, ht_part k q.1 ≤ p) {qs : ht_K × ht_K} (hqs : qs ∈ l) (hqp : ht_part k qs.1 = p)
    (hm : m ∉ F) (hB : B ∉ F) (hmB : m ≠ B) (hkl : ∀ a ∈ F, ht_rk (N' a) = ht_rk (N a) ∧ ht_rl (N' a) = ht_rl (N a)) (hpn : ∀ a ∈ F, ab ≠ some a → ht_rp (N' a) = ht_rp (N a))
    (hpa : ∀ a zo, ab = some a → ht_rp (N a) = .inr zo → ht_rp (N' a) = .inr (ht_zo zo (ht_bit k (ht_rl (N a))) B))
    (hNm : ht_rk (N' m) = k ∧ ht_rl (N' m) = 256 ∧ ht_rp (N' m) = .inl v) (hNB : ht_rk (N' B) = k ∧ ht_rl (N' B) = p ∧ ht_rp (N' B) = .inr (ht_zo (be, be) (ht_bit k p) m)) :
    ht_T N' (m :: B :: F) (if ab = none then some B else top) ((k, v) :: l) := by
  obtain ⟨hlt, hnk, hall⟩ := hs.gt h hp hmax hqs hqp
  have gs : ht_ag k qs.1 p := by rw [← hqp]; exact ht_part_ag k qs.1
  have inF : ∀ a ∈ F, ∀ x, ht_in N' a x ↔ ht_in N a x := by
    intro a ha x
    unfold ht_in
    rw [(hkl a ha).1, (hkl a ha).2]
  have inB : ∀ x, ht_in N' B x ↔ p ≤ ht_part k x := by
    intro x
    unfold ht_in
    rw [hNB.1, hNB.2.1]
  have inM : ∀ x, ht_in N' m x ↔ k = x := by
    intro x
    unfold ht_in
    rw [hNm.1, hNm.2.1, ← ht_part_eq]
    have := ht_part_le k x
    omega
  have hkn : ∀ q ∈ l, q.1 ≠ k := by
    intro q hq e
    have := hmax q hq
    rw [ht_part_eq.mpr e.symm] at this
    omega
  have kk : ht_part k k = 256 := ht_part_eq.mpr rfl
  have hbe := hs.1
  obtain ⟨t1, t2, t3, t4, t5, t6, t7, t8⟩ := id h
  refine ⟨?_, ?_, ?_, ?_, ?_, ?_, ?_, ?_⟩
  · exact List.nodup_cons.mpr ⟨fun q => by rcases List.mem_cons.mp q with e | e; exact hmB e; exact hm e, List.nodup_cons.mpr ⟨hB, t1⟩⟩
  · rw [List.map_cons]
    refine List.nodup_cons.mpr ⟨fun q => ?_, t2⟩
    obtain ⟨q, hq, e⟩ := List.mem_map.mp q
    exact hkn q hq e
  · refine ⟨fun t ht => ?_, fun ht => ?_⟩
    · obtain ⟨h1, h2, ⟨hab, h3⟩ | ⟨c, zc, hab, hc, hic, hlc, hzc, he⟩⟩ := hs
      · rw [if_pos hab] at ht
        cases ht
        refine ⟨List.mem_cons_of_mem _ List.mem_cons_self, fun q hq => (inB _).mpr ?_⟩
        rcases List.mem_cons.mp hq with e | e
        · subst e; show p ≤ ht_part k k; omega
        · exact (hall q e).mp ((t3.1 be h3).2 q e)
      · rw [if_neg (by rw [hab]; exact fun z => by cases z)] at ht
        subst ht
        obtain ⟨ht1, ht2⟩ := t3.1 t rfl
        refine ⟨List.mem_cons_of_mem _ (List.mem_cons_of_mem _ ht1), fun q hq => (inF t ht1 _).mpr ?_⟩
        rcases List.mem_cons.mp hq with e | e
        · subst e
          show ht_in N t k
          have := h.topL hc
          exact h.up ht1 (ht2 qs hqs) (ht_ag_symm (ht_ag_le gs (by omega)))
        · exact ht2 q e
    · exfalso
      obtain ⟨h1, h2, ⟨hab, h3⟩ | ⟨c, zc, hab, hc, hic, hlc, hzc, he⟩⟩ := hs
      · rw [if_pos hab] at ht; cases ht
      · rw [if_neg (by rw [hab]; exact fun z => by cases z)] at ht
        rw [(t3.2 ht).1] at hc
        cases hc
  · intro a ha x hx
    rcases List.mem_cons.mp ha with e | e
    · subst e
      rw [hNm.2.2] at hx
      cases hx
      exact ⟨hNm.2.1, by rw [hNm.1]; exact List.mem_cons_self⟩
    · rcases List.mem_cons.mp e with e | e
      · subst e; rw [hNB.2.2] at hx; cases hx
      · by_cases hab : ab = some a
        · exfalso
          obtain ⟨h1, h2, ⟨hab', h3⟩ | ⟨c, zc, hab', hc, hic, hlc, hzc, he⟩⟩ := hs
          · rw [hab] at hab'; cases hab'
          · rw [hab] at hab'; cases hab'
            rw [hpa a zc hab hzc] at hx; cases hx
        · rw [hpn a e hab] at hx
          rw [(hkl a e).1, (hkl a e).2]
          exact ⟨(t4 a e x hx).1, List.mem_cons_of_mem _ (t4 a e x hx).2⟩
  · intro q hq
    rcases List.mem_cons.mp hq with e | e
    · subst e
      exact ⟨m, List.mem_cons_self, hNm.2.2, hNm.1⟩
    · obtain ⟨a, ha, h1, h2⟩ := t5 q e
      refine ⟨a, List.mem_cons_of_mem _ (List.mem_cons_of_mem _ ha), ?_, by rw [(hkl a ha).1]; exact h2⟩
      by_cases hab : ab = some a
      · exfalso
        obtain ⟨q1, q2, ⟨hab', h3⟩ | ⟨c, zc, hab', hc, hic, hlc, hzc, he⟩⟩ := hs
        · rw [hab] at hab'; cases hab'
        · rw [hab] at hab'; cases hab'
          rw [hzc] at h1; cases h1
      · rw [hpn a ha hab]; exact h1
  · intro a ha zo hz
    have old : ∀ z ∈ F, ∀ c ∈ F, ∀ b, ht_half N l c z b → ((ht_in N c k ∧ ht_bit k (ht_rl (N c)) = b) ↔ ht_in N z k) → ht_half N' ((k, v) :: l) c z b := by
      intro z hz c hc b hh hk
      refine ⟨by rw [(hkl c hc).2, (hkl z hz).2]; exact hh.1, fun q hq => ?_⟩
      rw [inF c hc, inF z hz, (hkl c hc).2]
      rcases List.mem_cons.mp hq with e | e
      · subst e; exact hk
      · exact hh.2 q e
    rcases List.mem_cons.mp ha with e | e
    · subst e; rw [hNm.2.2] at hz; cases hz
    · rcases List.mem_cons.mp e with e | e
      · subst e
        rw [hNB.2.2] at hz
        cases hz
        refine ⟨by rw [hNB.2.1]; exact hp, fun b => ?_⟩
        by_cases hb : b = ht_bit k p
        · subst hb
          rw [ht_zo_self]
          refine ⟨List.mem_cons_self, by rw [hNB.2.1, hNm.2.1]; exact hp, fun q hq => ?_⟩
          rw [inB, inM, hNB.2.1]
          rcases List.mem_cons.mp hq with e | e
          · subst e
            exact ⟨fun _ => rfl, fun _ => ⟨by show p ≤ ht_part k k; omega, rfl⟩⟩
          · constructor
            · rintro ⟨x1, x2⟩
              exfalso
              have e2 : ht_part k q.1 = p := Nat.le_antisymm (hmax q e) x1
              exact ht_part_ne (k := k) (k' := q.1) (by omega) (by rw [e2]; exact x2.symm)
            · intro x; exact absurd x.symm (hkn q e)
        · have hb' : b = !ht_bit k p := by cases b <;> cases hx : ht_bit k p <;> simp_all
          subst hb'
          rw [ht_zo_other]
          have ech : ht_ch (be, be) (!ht_bit k p) = be := by cases ht_bit k p <;> rfl
          rw [ech]
          refine ⟨List.mem_cons_of_mem _ (List.mem_cons_of_mem _ hbe), by rw [hNB.2.1, (hkl be hbe).2]; exact hlt, fun q hq => ?_⟩
          rw [inB, inF be hbe, hNB.2.1]
          rcases List.mem_cons.mp hq with e | e
          · subst e
            constructor
            · rintro ⟨-, x2⟩
              exfalso
              have x3 : ht_bit k p = !ht_bit k p := x2
              cases hy : ht_bit k p <;> rw [hy] at x3 <;> cases x3
            · intro x; exact absurd x hnk
          · rw [hall q e]
            refine ⟨fun x => x.1, fun x => ⟨x, ?_⟩⟩
            have e2 : ht_part k q.1 = p := Nat.le_antisymm (hmax q e) x
            have := ht_part_ne (k := k) (k' := q.1) (by omega)
            rw [e2] at this
            cases hy : ht_bit k p <;> cases hw : ht_bit q.1 p <;> simp_all
      · by_cases hab : ab = some a
        · obtain ⟨q1, q2, ⟨hab', h3⟩ | ⟨c, zc, hab', hc, hic, hlc, hzc, he⟩⟩ := hs
          · rw [hab] at hab'; cases hab'
          · rw [hab] at hab'; cases hab'
            rw [hpa a zc hab hzc] at hz
            cases hz
            obtain ⟨y1, y2⟩ := t6 a hc zc hzc
            refine ⟨by rw [(hkl a hc).2]; exact y1, fun b => ?_⟩
            by_cases hb : b = ht_bit k (ht_rl (N a))
            · subst hb
              rw [ht_zo_self]
              refine ⟨List.mem_cons_of_mem _ List.mem_cons_self, by rw [hNB.2.1, (hkl a hc).2]; exact hlc, fun q hq => ?_⟩
              rw [inB, inF a hc, (hkl a hc).2]
              rcases List.mem_cons.mp hq with e | e
              · subst e
                exact ⟨fun _ => by show p ≤ ht_part k k; omega, fun _ => ⟨hic, rfl⟩⟩
              · rw [← hall q e, ← he]
                exact (y2 (ht_bit k (ht_rl (N a)))).2.2 q e
            · have hb' : b = !ht_bit k (ht_rl (N a)) := by cases b <;> cases hx : ht_bit k (ht_rl (N a)) <;> simp_all
              subst hb'
              rw [ht_zo_other]
              obtain ⟨w1, w2⟩ := y2 (!ht_bit k (ht_rl (N a)))
              refine ⟨List.mem_cons_of_mem _ (List.mem_cons_of_mem _ w1), old _ w1 a hc _ w2 ⟨?_, fun x => h.back hc hzc _ x⟩⟩
              rintro ⟨-, x2⟩
              exfalso
              cases hy : ht_bit k (ht_rl (N a)) <;> rw [hy] at x2 <;> cases x2
        · rw [hpn a e hab] at hz
          obtain ⟨y1, y2⟩ := t6 a e zo hz
          refine ⟨by rw [(hkl a e).2]; exact y1, fun b => ?_⟩
          obtain ⟨w1, w2⟩ := y2 b
          refine ⟨List.mem_cons_of_mem _ (List.mem_cons_of_mem _ w1), old _ w1 a e _ w2 ⟨?_, fun x => h.back e hz _ x⟩⟩
          rintro ⟨x1, x2⟩
          rw [← x2]
          exact hs.pass h hp hmax hqs hqp e hab hz x1
  · have no : ∀ a ∈ F, ht_rl (N a) = p → ht_in N a k → False := by
      intro a ha e hi
      cases hpx : ht_rp (N a) with
      | inl x => have := (t4 a ha x hpx).1; omega
      | inr zo =>
        obtain ⟨qb, mb, ib, bb, -⟩ := h.side ha hpx (ht_bit k p)
        rw [e] at bb
        have g2 := h.two ha hi ib
        rw [e] at g2
        have := (ht_ag_part (by omega)).mp (ht_ag_s g2 bb.symm)
        have := hmax qb mb
        omega
    have no2 : ∀ a ∈ F, ht_rl (N a) = 256 → ¬ ht_rk (N a) = k := by
      intro a ha e hi
      cases hpx : ht_rp (N a) with
      | inl x => exact hkn _ (t4 a ha x hpx).2 hi
      | inr zo => have := (t6 a ha zo hpx).1; omega
    have sym : ∀ a ∈ F, p = ht_rl (N a) → p ≤ ht_part k (ht_rk (N a)) → ht_in N a k := by
      intro a ha e x
      unfold ht_in
      rw [ht_part_comm, ← e]
      exact x
    intro a ha b hb hl hi
    rcases List.mem_cons.mp ha with ea | ea
    · subst ea
      rcases List.mem_cons.mp hb with eb | eb
      · exact eb.symm
      · rcases List.mem_cons.mp eb with eb | eb
        · subst eb; rw [hNm.2.1, hNB.2.1] at hl; omega
        · rw [hNm.2.1, (hkl b eb).2] at hl
          rw [inM, (hkl b eb).1] at hi
          exact absurd hi.symm (no2 b eb hl.symm)
    · rcases List.mem_cons.mp ea with ea' | ea'
      · subst ea'
        rcases List.mem_cons.mp hb with eb | eb
        · subst eb; rw [hNm.2.1, hNB.2.1] at hl; omega
        · rcases List.mem_cons.mp eb with eb | eb
          · exact eb.symm
          · rw [hNB.2.1, (hkl b eb).2] at hl
            rw [inB, (hkl b eb).1] at hi
            exact (no b eb hl.symm (sym b eb hl hi)).elim
      · rcases List.mem_cons.mp hb with eb | eb
        · subst eb
          rw [hNm.2.1, (hkl a ea').2] at hl
          rw [hNm.1, inF a ea'] at hi
          exfalso
          refine no2 a ea' hl (ht_part_eq.mp (Nat.le_antisymm (ht_part_le _ _) ?_))
          unfold ht_in at hi
          omega
        · rcases List.mem_cons.mp eb with eb | eb
          · subst eb
            rw [hNB.2.1, (hkl a ea').2] at hl
            rw [hNB.1, inF a ea'] at hi
            exact (no a ea' hl hi).elim
          · rw [(hkl a ea').2, (hkl b eb).2] at hl
            rw [(hkl b eb).1, inF a ea'] at hi
            exact t7 a ea' b eb hl hi
  · intro a ha
    rcases List.mem_cons.mp ha with ea | ea
    · subst ea; exact ⟨_, List.mem_cons_self, (inM _).mpr rfl⟩
    · rcases List.mem_cons.mp ea with ea | ea
      · subst ea; exact ⟨_, List.mem_cons_self, (inB _).mpr (by show p ≤ ht_part k k; omega)⟩
      · obtain ⟨q, hq, hi⟩ := t8 a ea
        exact ⟨q, List.mem_cons_of_mem _ hq, (inF a ea _).mpr hi⟩
end
section
/-! A key goes: its leaf and the branch above it go, the branch's other half takes its place. -/
theorem ht_nd_of_map {l : ht_L} (h : (l.map (·.1)).Nodup) : l.Nodup := by
  have := List.pairwise_map.mp h
  exact this.imp (fun {a b} hab e => hab (by rw [e]))
theorem ht_nd_val : ∀ {l : ht_L}, (l.map (·.1)).Nodup → ∀ {q q' : ht_K × ht_K}, q ∈ l → q' ∈ l → q.1 = q'.1 → q = q' := by
  intro l
  induction l with
  | nil => intro _ q q' hq; cases hq
  | cons x t ih =>
    intro h q q' hq hq' e
    rw [List.map_cons] at h
    obtain ⟨h1, h2⟩ := List.nodup_cons.mp h
    rcases List.mem_cons.mp hq with a | a <;> rcases List.mem_cons.mp hq' with b | b
    · rw [a, b]
    · subst a; exact absurd (List.mem_map.mpr ⟨q', b, e.symm⟩) h1
    · subst b; exact absurd (List.mem_map.mpr ⟨q, a, e⟩) h1
    · exact ih h2 a b e
theorem ht_er_mem {l : ht_L} (h : (l.map (·.1)).Nodup) {k v : ht_K} (hk : (k, v) ∈ l) {q : ht_K × ht_K} : q ∈ l.erase (k, v) ↔ q ∈ l ∧ q.1 ≠ k := by
  rw [(ht_nd_of_map h).mem_erase_iff]
  constructor
  · rintro ⟨x, y⟩
    exact ⟨y, fun e => x (ht_nd_val h y hk e)⟩
  · rintro ⟨x, y⟩
    exact ⟨fun e => y (by rw [e]), x⟩
theorem ht_er_nd {l : ht_L} (h : (l.map (·.1)).Nodup) (q : ht_K × ht_K) : ((l.erase q).map (·.1)).Nodup := h.sublist (List.Sublist.map _ (List.erase_sublist))
theorem ht_T.two_ne {N : ht_N} {F : List Nat} {top : Option Nat} {l : ht_L} (h : ht_T N F top l) {a : Nat} (ha : a ∈ F) {zo : Nat × Nat} (hp : ht_rp (N a) = .inr zo) (b : Bool) : ht_ch zo (!b) ≠ ht_ch zo b := by
  intro e
  obtain ⟨q, hq, i1, b1, j1⟩ := h.side ha hp (!b)
  rw [e] at j1
  have := (h.back ha hp b j1).2
  rw [b1] at this
  cases b <;> cases this
theorem ht_T.leaf_in {N : ht_N} {F : List Nat} {top : Option Nat} {l : ht_L} (h : ht_T N F top l) {m : Nat} (hm : m ∈ F) {v : ht_K} (hp : ht_rp (N m) = .inl v) (x : ht_K) : ht_in N m x ↔ ht_rk (N m) = x := by
  unfold ht_in
  rw [(h.2.2.2.1 m hm v hp).1, ← ht_part_eq]
  have := ht_part_le (ht_rk (N m)) x
  omega
theorem ht_T.leaf_eq {N : ht_N} {F : List Nat} {top : Option Nat} {l : ht_L} (h : ht_T N F top l) {m a : Nat} (hm : m ∈ F) (ha : a ∈ F) {v v' : ht_K} (hp : ht_rp (N m) = .inl v) (hp' : ht_rp (N a) = .inl v') (e : ht_rk (N a) = ht_rk (N m)) : a = m := by
  refine h.same ha hm ((h.leaf_in hm hp _).mpr rfl) ((h.leaf_in ha hp' _).mpr e) ?_
  rw [(h.2.2.2.1 m hm v hp).1, (h.2.2.2.1 a ha v' hp').1]
theorem ht_T.remove {N N' : ht_N} {F : List Nat} {top : Option Nat} {l : ht_L} {k v : ht_K} {ab : Option Nat} {m P : Nat} {zp : Nat × Nat} (h : ht_T N F top l)
    (hm : m ∈ F) (hmv : ht_rp (N m) = .inl v) (hmk : ht_rk (N m) = k) (hP : P ∈ F) (hPz : ht_rp (N P) = .inr zp) (hPm : ht_ch zp (ht_bit k (ht_rl (N P))) = m)
    (hab : (ab = none ∧ top = some P) ∨ ∃ c zc, ab = some c ∧ c ∈ F ∧ ht_rp (N c) = .inr zc ∧ ht_ch zc (ht_bit k (ht_rl (N c))) = P)
    (hkl : ∀ a ∈ F, ht_rk (N' a) = ht_rk (N a) ∧ ht_rl (N' a) = ht_rl (N a)) (hpn : ∀ a ∈ F, ab ≠ some a → ht_rp (N' a) = ht_rp (N a))
    (hpa : ∀ a zo, ab = some a → ht_rp (N a) = .inr zo → ht_rp (N' a) = .inr (ht_zo zo (ht_bit k (ht_rl (N a))) (ht_ch zp (!ht_bit k (ht_rl (N P)))))) :
    ht_T N' ((F.erase m).erase P) (if ab = none then some (ht_ch zp (!ht_bit k (ht_rl (N P)))) else top) (l.erase (k, v)) := by
  obtain ⟨t1, t2, t3, t4, t5, t6, t7, t8⟩ := id h
  have hkv : (k, v) ∈ l := by rw [← hmk]; exact (t4 m hm v hmv).2
  have hF : ∀ {a : Nat}, a ∈ (F.erase m).erase P ↔ a ∈ F ∧ a ≠ m ∧ a ≠ P := by
    intro a
    rw [(t1.erase m).mem_erase_iff, t1.mem_erase_iff]
    exact ⟨fun x => ⟨x.2.2, x.2.1, x.1⟩, fun x => ⟨x.2.2, x.2.1, x.1⟩⟩
  have hl' : ∀ {q : ht_K × ht_K}, q ∈ l.erase (k, v) ↔ q ∈ l ∧ q.1 ≠ k := fun {q} => ht_er_mem t2 hkv
  generalize ho : ht_ch zp (!ht_bit k (ht_rl (N P))) = o at hpa ⊢
  obtain ⟨o1, o2, o3⟩ := h.half hP hPz (!ht_bit k (ht_rl (N P)))
  rw [ho] at o1 o3
  have inF : ∀ a ∈ F, ∀ x, ht_in N' a x ↔ ht_in N a x := by
    intro a ha x
    unfold ht_in
    rw [(hkl a ha).1, (hkl a ha).2]
  have hom : o ≠ m := by rw [← ho, ← hPm]; exact h.two_ne hP hPz _
  have hoP : o ≠ P := fun e => by have := o3.1; rw [e] at this; omega
  have oF : o ∈ (F.erase m).erase P := hF.mpr ⟨o1, hom, hoP⟩
  have Po : ∀ q ∈ l, q.1 ≠ k → (ht_in N P q.1 ↔ ht_in N o q.1) := by
    intro q hq hne
    refine ⟨fun x => (o3.2 q hq).mp ⟨x, ?_⟩, fun x => ((o3.2 q hq).mpr x).1⟩
    by_cases e : ht_bit q.1 (ht_rl (N P)) = ht_bit k (ht_rl (N P))
    · exfalso
      have j := ((h.half hP hPz (ht_bit k (ht_rl (N P)))).2.2.2 q hq).mp ⟨x, e⟩
      rw [hPm, h.leaf_in hm hmv, hmk] at j
      exact hne j.symm
    · cases hy : ht_bit k (ht_rl (N P)) <;> cases hw : ht_bit q.1 (ht_rl (N P)) <;> simp_all
  have nochild : ∀ a ∈ F, a ≠ P → ∀ zo, ht_rp (N a) = .inr zo → ∀ b, ht_ch zo b ≠ m := by
    intro a ha hne zo hz b e
    exact hne (h.parent ha hP hz hPz (e.trans hPm.symm))
  refine ⟨(t1.erase m).erase P, ht_er_nd t2 _, ?_, ?_, ?_, ?_, ?_, ?_⟩
  · refine ⟨fun t ht => ?_, fun ht => ?_⟩
    · rcases hab with ⟨e, e2⟩ | ⟨c, zc, e, hc, hzc, hcP⟩
      · rw [if_pos e] at ht
        cases ht
        refine ⟨oF, fun q hq => (inF o o1 _).mpr ?_⟩
        obtain ⟨x, y⟩ := hl'.mp hq
        exact (Po q x y).mp ((t3.1 P e2).2 q x)
      · rw [if_neg (by rw [e]; exact fun z => by cases z)] at ht
        subst ht
        obtain ⟨y1, y2⟩ := t3.1 t rfl
        refine ⟨hF.mpr ⟨y1, fun z => h.noparent hP hPz (b := ht_bit k (ht_rl (N P))) (by rw [hPm, z]), fun z => h.noparent hc hzc (b := ht_bit k (ht_rl (N c))) (by rw [hcP, z])⟩, fun q hq => (inF t y1 _).mpr (y2 q (hl'.mp hq).1)⟩
    · exfalso
      rcases hab with ⟨e, e2⟩ | ⟨c, zc, e, hc, hzc, hcP⟩
      · rw [if_pos e] at ht; cases ht
      · rw [if_neg (by rw [e]; exact fun z => by cases z)] at ht
        rw [(t3.2 ht).1] at hc; cases hc
  · intro a ha x hx
    obtain ⟨ha, hm', hP'⟩ := hF.mp ha
    have hna : ab ≠ some a := by
      intro e
      rcases hab with ⟨e', -⟩ | ⟨c, zc, e', hc, hzc, hcP⟩
      · rw [e] at e'; cases e'
      · rw [e] at e'; cases e'
        rw [hpa a zc e hzc] at hx; cases hx
    rw [hpn a ha hna] at hx
    rw [(hkl a ha).1, (hkl a ha).2]
    exact ⟨(t4 a ha x hx).1, hl'.mpr ⟨(t4 a ha x hx).2, fun e => hm' (h.leaf_eq hm ha hmv hx (e.trans hmk.symm))⟩⟩
  · intro q hq
    obtain ⟨hq, hqk⟩ := hl'.mp hq
    obtain ⟨a, ha, h1, h2⟩ := t5 q hq
    have hna : ab ≠ some a := by
      intro e
      rcases hab with ⟨e', -⟩ | ⟨c, zc, e', hc, hzc, hcP⟩
      · rw [e] at e'; cases e'
      · rw [e] at e'; cases e'
        rw [hzc] at h1; cases h1
    refine ⟨a, hF.mpr ⟨ha, fun e => hqk (by rw [← h2, e, hmk]), fun e => by rw [e, hPz] at h1; cases h1⟩, by rw [hpn a ha hna]; exact h1, by rw [(hkl a ha).1]; exact h2⟩
  · intro a ha zo hz
    obtain ⟨ha, hm', hP'⟩ := hF.mp ha
    have old : ∀ z ∈ F, ∀ b, ht_half N l a z b → ht_half N' (l.erase (k, v)) a z b := by
      intro z hz b hh
      refine ⟨by rw [(hkl a ha).2, (hkl z hz).2]; exact hh.1, fun q hq => ?_⟩
      rw [inF a ha, inF z hz, (hkl a ha).2]
      exact hh.2 q (hl'.mp hq).1
    by_cases hna : ab = some a
    · rcases hab with ⟨e', -⟩ | ⟨c, zc, e', hc, hzc, hcP⟩
      · rw [hna] at e'; cases e'
      · rw [hna] at e'; cases e'
        rw [hpa a zc hna hzc] at hz
        cases hz
        obtain ⟨y1, y2⟩ := t6 a ha zc hzc
        refine ⟨by rw [(hkl a ha).2]; exact y1, fun b => ?_⟩
        by_cases hb : b = ht_bit k (ht_rl (N a))
        · subst hb
          rw [ht_zo_self]
          have hh := (y2 (ht_bit k (ht_rl (N a)))).2
          rw [hcP] at hh
          refine ⟨oF, by rw [(hkl a ha).2, (hkl o o1).2]; exact Nat.lt_trans hh.1 o3.1, fun q hq => ?_⟩
          obtain ⟨hq, hqk⟩ := hl'.mp hq
          rw [inF a ha, inF o o1, (hkl a ha).2, ← Po q hq hqk]
          exact hh.2 q hq
        · have hb' : b = !ht_bit k (ht_rl (N a)) := by cases b <;> cases hx : ht_bit k (ht_rl (N a)) <;> simp_all
          subst hb'
          rw [ht_zo_other]
          obtain ⟨w1, w2⟩ := y2 (!ht_bit k (ht_rl (N a)))
          refine ⟨hF.mpr ⟨w1, nochild a ha hP' zc hzc _, fun e => h.two_ne ha hzc (ht_bit k (ht_rl (N a))) (by rw [e, hcP])⟩, old _ w1 _ w2⟩
    · rw [hpn a ha hna] at hz
      obtain ⟨y1, y2⟩ := t6 a ha zo hz
      refine ⟨by rw [(hkl a ha).2]; exact y1, fun b => ?_⟩
      obtain ⟨w1, w2⟩ := y2 b
      refine ⟨hF.mpr ⟨w1, nochild a ha hP' zo hz _, fun e => ?_⟩, old _ w1 _ w2⟩
      rcases hab with ⟨e', e2⟩ | ⟨c, zc, e', hc, hzc, hcP⟩
      · subst e2; exact h.noparent ha hz e
      · have := h.parent ha hc hz hzc (e.trans hcP.symm)
        subst this
        exact hna e'
  · intro a ha b hb hl hi
    obtain ⟨ha, -⟩ := hF.mp ha
    obtain ⟨hb, -⟩ := hF.mp hb
    rw [(hkl a ha).2, (hkl b hb).2] at hl
    rw [(hkl b hb).1, inF a ha] at hi
    exact t7 a ha b hb hl hi
  · intro a ha
    obtain ⟨ha, hm', hP'⟩ := hF.mp ha
    obtain ⟨q, hq, hi⟩ := t8 a ha
    by_cases e : q.1 = k
    · cases hpx : ht_rp (N a) with
      | inl x =>
        exfalso
        rw [e, h.leaf_in ha hpx] at hi
        exact hm' (h.leaf_eq hm ha hmv hpx (hi.trans hmk.symm))
      | inr zo =>
        obtain ⟨q', hq', i', b', -⟩ := h.side ha hpx (!ht_bit k (ht_rl (N a)))
        refine ⟨q', hl'.mpr ⟨hq', fun e2 => ?_⟩, (inF a ha _).mpr i'⟩
        rw [e2] at b'
        cases hy : ht_bit k (ht_rl (N a)) <;> rw [hy] at b' <;> cases b'
    · exact ⟨q, hl'.mpr ⟨hq, e⟩, (inF a ha _).mpr hi⟩
theorem ht_T_nil (N : ht_N) : ht_T N [] none [] := by
  have h0 : ht_T0 N [] none [] := ⟨fun t h => (by cases h), fun _ => ⟨rfl, rfl⟩⟩
  have h1 : ht_T1 N [] [] := fun a ha => by cases ha
  have h2 : ht_T2 N [] [] := fun a ha => by cases ha
  have h3 : ht_T3 N [] [] := fun a ha => by cases ha
  have h4 : ht_T4 N [] := fun a ha => by cases ha
  have h5 : ht_T5 N [] [] := fun a ha => by cases ha
  exact ⟨List.nodup_nil, List.nodup_nil, h0, h1, h2, h3, h4, h5⟩
theorem ht_T.remove1 {N N' : ht_N} {F : List Nat} {l : ht_L} {k v : ht_K} {m : Nat} (h : ht_T N F (some m) l) (hmv : ht_rp (N m) = .inl v) (hmk : ht_rk (N m) = k) : ht_T N' [] none (l.erase (k, v)) ∧ l.erase (k, v) = [] := by
  obtain ⟨t1, t2, t3, t4, t5, t6, t7, t8⟩ := id h
  obtain ⟨hm, hall⟩ := t3.1 m rfl
  have hkv : (k, v) ∈ l := by rw [← hmk]; exact (t4 m hm v hmv).2
  have e : l.erase (k, v) = [] := by
    refine List.eq_nil_iff_forall_not_mem.mpr (fun q hq => ?_)
    obtain ⟨x, y⟩ := (ht_er_mem t2 hkv).mp hq
    have := hall q x
    rw [h.leaf_in hm hmv, hmk] at this
    exact y this.symm
  rw [e]
  refine ⟨?_, rfl⟩
  exact ht_T_nil N'
end
section
/-! A key gets another value; which hashes stay right. -/
def ht_sv (l : ht_L) (k v : ht_K) : ht_L := l.map (fun q => if q.1 = k then (k, v) else q)
theorem ht_sv_keys (l : ht_L) (k v : ht_K) : (ht_sv l k v).map (·.1) = l.map (·.1) := by
  unfold ht_sv
  rw [List.map_map]
  refine List.map_congr_left (fun q _ => ?_)
  show (if q.1 = k then (k, v) else q).1 = q.1
  by_cases e : q.1 = k
  · rw [if_pos e]; exact e.symm
  · rw [if_neg e]
theorem ht_sv_to {l : ht_L} {k v : ht_K} {q : ht_K × ht_K} (hq : q ∈ l) : ∃ q' ∈ ht_sv l k v, q'.1 = q.1 := by
  refine ⟨_, List.mem_map.mpr ⟨q, hq, rfl⟩, ?_⟩
  by_cases e : q.1 = k
  · rw [if_pos e]; exact e.symm
  · rw [if_neg e]
theorem ht_sv_of {l : ht_L} {k v : ht_K} {q : ht_K × ht_K} (hq : q ∈ ht_sv l k v) : ∃ q' ∈ l, q'.1 = q.1 ∧ (q.1 = k → q.2 = v) ∧ (q.1 ≠ k → q' = q) := by
  obtain ⟨q', h1, h2⟩ := List.mem_map.mp hq
  refine ⟨q', h1, ?_⟩
  by_cases e : q'.1 = k
  · rw [if_pos e] at h2; subst h2
    exact ⟨e, fun _ => rfl, fun z => absurd rfl z⟩
  · rw [if_neg e] at h2; subst h2
    exact ⟨rfl, fun z => absurd z e, fun _ => rfl⟩
theorem ht_T.setv {N N' : ht_N} {F : List Nat} {top : Option Nat} {l : ht_L} {k v v' : ht_K} {m : Nat} (h : ht_T N F top l) (hm : m ∈ F) (hmv : ht_rp (N m) = .inl v) (hmk : ht_rk (N m) = k)
    (hkl : ∀ a ∈ F, ht_rk (N' a) = ht_rk (N a) ∧ ht_rl (N' a) = ht_rl (N a)) (hpn : ∀ a ∈ F, a ≠ m → ht_rp (N' a) = ht_rp (N a)) (hpm : ht_rp (N' m) = .inl v') : ht_T N' F top (ht_sv l k v') := by
  obtain ⟨t1, t2, t3, t4, t5, t6, t7, t8⟩ := id h
  have inF : ∀ a ∈ F, ∀ x, ht_in N' a x ↔ ht_in N a x := by
    intro a ha x
    unfold ht_in
    rw [(hkl a ha).1, (hkl a ha).2]
  refine ⟨t1, by rw [ht_sv_keys]; exact t2, ⟨fun t ht => ⟨(t3.1 t ht).1, fun q hq => ?_⟩, fun ht => ?_⟩, ?_, ?_, ?_, ?_, ?_⟩
  · obtain ⟨q', h1, h2, -⟩ := ht_sv_of hq
    rw [inF t (t3.1 t ht).1, ← h2]
    exact (t3.1 t ht).2 q' h1
  · rw [(t3.2 ht).1] at hm; cases hm
  · intro a ha x hx
    by_cases e : a = m
    · subst e
      rw [hpm] at hx; cases hx
      rw [(hkl a hm).1, (hkl a hm).2]
      refine ⟨(t4 a hm v hmv).1, List.mem_map.mpr ⟨_, (t4 a hm v hmv).2, ?_⟩⟩
      rw [hmk, if_pos rfl]
    · rw [hpn a ha e] at hx
      rw [(hkl a ha).1, (hkl a ha).2]
      refine ⟨(t4 a ha x hx).1, List.mem_map.mpr ⟨_, (t4 a ha x hx).2, ?_⟩⟩
      rw [if_neg (fun z => e (h.leaf_eq hm ha hmv hx (z.trans hmk.symm)))]
  · intro q hq
    obtain ⟨q', h1, h2, h3, h4⟩ := ht_sv_of hq
    by_cases e : q.1 = k
    · exact ⟨m, hm, by rw [hpm, h3 e], by rw [(hkl m hm).1, hmk, e]⟩
    · rw [h4 e] at h1
      obtain ⟨a, ha, x, y⟩ := t5 q h1
      have : a ≠ m := fun z => e (by rw [← y, z, hmk])
      exact ⟨a, ha, by rw [hpn a ha this]; exact x, by rw [(hkl a ha).1]; exact y⟩
  · intro a ha zo hz
    have hne : a ≠ m := fun e => by rw [e, hpm] at hz; cases hz
    rw [hpn a ha hne] at hz
    obtain ⟨y1, y2⟩ := t6 a ha zo hz
    refine ⟨by rw [(hkl a ha).2]; exact y1, fun b => ⟨(y2 b).1, by rw [(hkl a ha).2, (hkl _ (y2 b).1).2]; exact (y2 b).2.1, fun q hq => ?_⟩⟩
    obtain ⟨q', h1, h2, -⟩ := ht_sv_of hq
    rw [inF a ha, inF _ (y2 b).1, (hkl a ha).2, ← h2]
    exact (y2 b).2.2 q' h1
  · intro a ha b hb hl hi
    rw [(hkl a ha).2, (hkl b hb).2] at hl
    rw [(hkl b hb).1, inF a ha] at hi
    exact t7 a ha b hb hl hi
  · intro a ha
    obtain ⟨q, hq, hi⟩ := t8 a ha
    obtain ⟨q', h1, h2⟩ := ht_sv_to (k := k) (v := v') hq
    exact ⟨q', h1, by rw [inF a ha, h2]; exact hi⟩
/-- the hashes that are called fresh are right; a fresh branch has fresh halves -/
def ht_FH (dg : Int32 → ht_K → ht_K → ht_K) (N : ht_N) (F : List Nat) (top : Option Nat) (l : ht_L) : Prop :=
  (∀ t, top = some t → ht_rf (N t) = true → ht_rh (N t) = ht_h dg 256 (ht_U N l t)) ∧
  ∀ a ∈ F, ∀ zo, ht_rp (N a) = .inr zo → ∀ b, (ht_rf (N (ht_ch zo b)) = true → ht_rh (N (ht_ch zo b)) = ht_h dg (255 - ht_rl (N a)) (ht_U N l (ht_ch zo b))) ∧ (ht_rf (N a) = true → ht_rf (N (ht_ch zo b)) = true)
theorem ht_U_cons {N : ht_N} {l : ht_L} {a : Nat} {k v : ht_K} (h : ¬ ht_in N a k) : ht_U N ((k, v) :: l) a = ht_U N l a := by
  unfold ht_U
  rw [List.filter_cons, if_neg]
  intro x
  exact h (show ht_rl (N a) ≤ ht_part (ht_rk (N a)) k from of_decide_eq_true x)
theorem ht_fl_erase {α : Type} [BEq α] [LawfulBEq α] (f : α → Bool) (x : α) (hx : f x = false) : ∀ l : List α, (l.erase x).filter f = l.filter f := by
  intro l
  induction l with
  | nil => rfl
  | cons y t ih =>
    rw [List.erase_cons]
    by_cases e : y == x
    · rw [if_pos e]
      have e2 := LawfulBEq.eq_of_beq e
      subst e2
      rw [List.filter_cons, if_neg (by rw [hx]; decide)]
    · rw [if_neg e, List.filter_cons, List.filter_cons, ih]
theorem ht_U_sv {N : ht_N} {a : Nat} {k v : ht_K} (h : ¬ ht_in N a k) : ∀ l : ht_L, ht_U N (ht_sv l k v) a = ht_U N l a := by
  intro l
  induction l with
  | nil => rfl
  | cons q t ih =>
    unfold ht_U ht_sv at ih ⊢
    rw [List.map_cons]
    by_cases e : q.1 = k
    · rw [if_pos e, List.filter_cons, List.filter_cons, if_neg (fun x => h (show ht_rl (N a) ≤ ht_part (ht_rk (N a)) k from of_decide_eq_true x)), if_neg (fun x => h (by have := of_decide_eq_true x; rw [e] at this; exact this)), ih]
    · rw [if_neg e, List.filter_cons, List.filter_cons, ih]
theorem ht_U_congr {N N' : ht_N} {l : ht_L} {a : Nat} (h1 : ht_rk (N' a) = ht_rk (N a)) (h2 : ht_rl (N' a) = ht_rl (N a)) : ht_U N' l a = ht_U N l a := by
  unfold ht_U
  rw [h1, h2]
theorem ht_FH.setv {dg : Int32 → ht_K → ht_K → ht_K} {N N' : ht_N} {F : List Nat} {top : Option Nat} {l : ht_L} {k v v' : ht_K} {m : Nat} (h : ht_T N F top l) (hf : ht_FH dg N F top l) (hm : m ∈ F) (hmv : ht_rp (N m) = .inl v) (hmk : ht_rk (N m) = k)
    (hkl : ∀ a ∈ F, ht_rk (N' a) = ht_rk (N a) ∧ ht_rl (N' a) = ht_rl (N a)) (hpn : ∀ a ∈ F, a ≠ m → ht_rp (N' a) = ht_rp (N a)) (hpm : ht_rp (N' m) = .inl v')
    (hfr : ∀ a ∈ F, ht_rf (N' a) = true → ht_rf (N a) = true ∧ ht_rh (N' a) = ht_rh (N a) ∧ ¬ ht_in N a k) (hfk : ∀ a ∈ F, ht_rf (N a) = true → ¬ ht_in N a k → ht_rf (N' a) = true) : ht_FH dg N' F top (ht_sv l k v') := by
  refine ⟨fun t ht hr => ?_, fun a ha zo hz b => ?_⟩
  · have htF := (h.2.2.1.1 t ht).1
    obtain ⟨x1, x2, x3⟩ := hfr t htF hr
    rw [x2, hf.1 t ht x1, ht_U_congr (hkl t htF).1 (hkl t htF).2, ht_U_sv x3]
  · have hne : a ≠ m := fun e => by rw [e, hpm] at hz; cases hz
    rw [hpn a ha hne] at hz
    obtain ⟨z1, z2, z3⟩ := h.half ha hz b
    obtain ⟨y1, y2⟩ := hf.2 a ha zo hz b
    refine ⟨fun hr => ?_, fun hr => ?_⟩
    · obtain ⟨x1, x2, x3⟩ := hfr _ z1 hr
      rw [x2, y1 x1, (hkl a ha).2, ht_U_congr (hkl _ z1).1 (hkl _ z1).2, ht_U_sv x3]
    · obtain ⟨x1, x2, x3⟩ := hfr a ha hr
      exact hfk _ z1 (y2 x1) (fun q => x3 (h.back ha hz b q).1)
theorem ht_FH.insert {dg : Int32 → ht_K → ht_K → ht_K} {N N' : ht_N} {F : List Nat} {top : Option Nat} {l : ht_L} {k v : ht_K} {p : Nat} {ab : Option Nat} {be m B : Nat} (h : ht_T N F top l) (hf : ht_FH dg N F top l) (hs : ht_slot N F top k p ab be)
    (h' : ht_T N' (m :: B :: F) (if ab = none then some B else top) ((k, v) :: l)) (hB : B ∉ F)
    (hkl : ∀ a ∈ F, ht_rk (N' a) = ht_rk (N a) ∧ ht_rl (N' a) = ht_rl (N a)) (hpn : ∀ a ∈ F, ab ≠ some a → ht_rp (N' a) = ht_rp (N a))
    (hpa : ∀ a zo, ab = some a → ht_rp (N a) = .inr zo → ht_rp (N' a) = .inr (ht_zo zo (ht_bit k (ht_rl (N a))) B))
    (hNm : ht_rf (N' m) = false ∧ ht_rp (N' m) = .inl v) (hNB : ht_rf (N' B) = false ∧ ht_rp (N' B) = .inr (ht_zo (be, be) (ht_bit k p) m))
    (hfr : ∀ a ∈ F, ht_rf (N' a) = true → ht_rf (N a) = true ∧ ht_rh (N' a) = ht_rh (N a) ∧ ¬ ht_in N a k ∧ a ≠ be) (hfk : ∀ a ∈ F, ht_rf (N a) = true → ¬ ht_in N a k → a ≠ be → ht_rf (N' a) = true) : ht_FH dg N' (m :: B :: F) (if ab = none then some B else top) ((k, v) :: l) := by
  have inF : ∀ a ∈ F, ∀ x, ht_in N' a x ↔ ht_in N a x := by
    intro a ha x
    unfold ht_in
    rw [(hkl a ha).1, (hkl a ha).2]
  have hU : ∀ z ∈ F, ¬ ht_in N z k → ht_U N' ((k, v) :: l) z = ht_U N l z := fun z hz hn => by
    rw [ht_U_congr (hkl z hz).1 (hkl z hz).2, ht_U_cons hn]
  refine ⟨fun t ht hr => ?_, fun a ha zo hz b => ?_⟩
  · exfalso
    by_cases hab : ab = none
    · rw [if_pos hab] at ht; cases ht
      rw [hNB.1] at hr; cases hr
    · have hall := (h'.2.2.1.1 t ht).2 (k, v) List.mem_cons_self
      rw [if_neg hab] at ht
      have htF := (h.2.2.1.1 t ht).1
      exact (hfr t htF hr).2.2.1 ((inF t htF k).mp hall)
  · rcases List.mem_cons.mp ha with e | e
    · subst e; rw [hNm.2] at hz; cases hz
    · rcases List.mem_cons.mp e with e | e
      · subst e
        rw [hNB.2] at hz
        cases hz
        have hno : ht_rf (N' (ht_ch (ht_zo (be, be) (ht_bit k p) m) b)) = false := by
          cases b <;> cases ht_bit k p
          · exact hNm.1
          · cases hx : ht_rf (N' be) with
            | false => exact hx
            | true => exact absurd rfl (hfr be hs.1 hx).2.2.2
          · cases hx : ht_rf (N' be) with
            | false => exact hx
            | true => exact absurd rfl (hfr be hs.1 hx).2.2.2
          · exact hNm.1
        exact ⟨fun hr => (by rw [hno] at hr; cases hr), fun hr => (by rw [hNB.1] at hr; cases hr)⟩
      · have stays : ∀ zo0, ht_rp (N a) = .inr zo0 → ht_ch zo b = ht_ch zo0 b → (ht_rf (N' (ht_ch zo b)) = true → ht_rh (N' (ht_ch zo b)) = ht_h dg (255 - ht_rl (N' a)) (ht_U N' ((k, v) :: l) (ht_ch zo b))) ∧ (ht_rf (N' a) = true → ht_rf (N' (ht_ch zo b)) = true) := by
          intro zo0 hz0 hch
          obtain ⟨z1, z2, z3⟩ := h.half e hz0 b
          obtain ⟨y1, y2⟩ := hf.2 a e zo0 hz0 b
          refine ⟨fun hr => ?_, fun hr => ?_⟩
          · rw [hch] at hr ⊢
            obtain ⟨x1, x2, x3, -⟩ := hfr _ z1 hr
            rw [x2, y1 x1, (hkl a e).2, hU _ z1 x3]
          · obtain ⟨x1, x2, x3, -⟩ := hfr a e hr
            rw [hch]
            refine hfk _ z1 (y2 x1) (fun q => x3 (h.back e hz0 b q).1) (fun q => ?_)
            have hpar := h'.parent (a := a) (c := B) (List.mem_cons_of_mem _ (List.mem_cons_of_mem _ e)) (List.mem_cons_of_mem _ List.mem_cons_self) hz hNB.2 (b := b) (b' := !ht_bit k p) (by rw [hch, q]; cases ht_bit k p <;> rfl)
            exact hB (hpar ▸ e)
        by_cases hab : ab = some a
        · obtain ⟨q1, q2, ⟨hab', h3⟩ | ⟨c, zc, hab', hc, hic, hlc, hzc, he⟩⟩ := hs
          · rw [hab] at hab'; cases hab'
          · rw [hab] at hab'; cases hab'
            have hz2 := hz
            rw [hpa a zc hab hzc] at hz2
            cases hz2
            by_cases hb : b = ht_bit k (ht_rl (N a))
            · subst hb
              rw [ht_zo_self]
              exact ⟨fun hr => (by rw [hNB.1] at hr; cases hr), fun hr => absurd hic (hfr a e hr).2.2.1⟩
            · have hb' : b = !ht_bit k (ht_rl (N a)) := by cases b <;> cases hx : ht_bit k (ht_rl (N a)) <;> simp_all
              refine stays zc hzc ?_
              rw [hb', ht_zo_other]
        · have hz2 := hz
          rw [hpn a e hab] at hz2
          exact stays zo hz2 rfl
theorem ht_FH.remove {dg : Int32 → ht_K → ht_K → ht_K} {N N' : ht_N} {F : List Nat} {top : Option Nat} {l : ht_L} {k v : ht_K} {ab : Option Nat} {m P o : Nat} {zp : Nat × Nat} (h : ht_T N F top l) (hf : ht_FH dg N F top l)
    (hm : m ∈ F) (hmv : ht_rp (N m) = .inl v) (hmk : ht_rk (N m) = k) (hP : P ∈ F) (hPz : ht_rp (N P) = .inr zp) (hPm : ht_ch zp (ht_bit k (ht_rl (N P))) = m)
    (hab : (ab = none ∧ top = some P) ∨ ∃ c zc, ab = some c ∧ c ∈ F ∧ ht_rp (N c) = .inr zc ∧ ht_ch zc (ht_bit k (ht_rl (N c))) = P)
    (h' : ht_T N' ((F.erase m).erase P) (if ab = none then some o else top) (l.erase (k, v)))
    (hkl : ∀ a ∈ F, ht_rk (N' a) = ht_rk (N a) ∧ ht_rl (N' a) = ht_rl (N a)) (hpn : ∀ a ∈ F, ab ≠ some a → ht_rp (N' a) = ht_rp (N a))
    (hpa : ∀ a zo, ab = some a → ht_rp (N a) = .inr zo → ht_rp (N' a) = .inr (ht_zo zo (ht_bit k (ht_rl (N a))) o))
    (hfr : ∀ a ∈ (F.erase m).erase P, ht_rf (N' a) = true → ht_rf (N a) = true ∧ ht_rh (N' a) = ht_rh (N a) ∧ ¬ ht_in N a k ∧ a ≠ o) (hfk : ∀ a ∈ (F.erase m).erase P, ht_rf (N a) = true → ¬ ht_in N a k → a ≠ o → ht_rf (N' a) = true) : ht_FH dg N' ((F.erase m).erase P) (if ab = none then some o else top) (l.erase (k, v)) := by
  obtain ⟨t1, t2, t3, t4, t5, t6, t7, t8⟩ := id h
  have hkv : (k, v) ∈ l := by rw [← hmk]; exact (t4 m hm v hmv).2
  have hF : ∀ {a : Nat}, a ∈ (F.erase m).erase P → a ∈ F := fun {a} x => List.mem_of_mem_erase (List.mem_of_mem_erase x)
  have hPk : ht_in N P k := (h.back hP hPz (ht_bit k (ht_rl (N P))) (by rw [hPm, h.leaf_in hm hmv]; exact hmk)).1
  have hck : ∀ c zc, c ∈ F → ht_rp (N c) = .inr zc → ht_ch zc (ht_bit k (ht_rl (N c))) = P → ht_in N c k := fun c zc hc hzc hcP => (h.back hc hzc (ht_bit k (ht_rl (N c))) (by rw [hcP]; exact hPk)).1
  have hU : ∀ z ∈ F, ¬ ht_in N z k → ht_U N' (l.erase (k, v)) z = ht_U N l z := fun z hz hn => by
    rw [ht_U_congr (hkl z hz).1 (hkl z hz).2]
    exact ht_fl_erase _ (k, v) (decide_eq_false (show ¬ ht_rl (N z) ≤ ht_part (ht_rk (N z)) k from hn)) l
  refine ⟨fun t ht hr => ?_, fun a ha zo hz b => ?_⟩
  · exfalso
    have htF' := (h'.2.2.1.1 t ht).1
    obtain ⟨x1, x2, x3, x4⟩ := hfr t htF' hr
    by_cases e : ab = none
    · rw [if_pos e] at ht; cases ht
      exact x4 rfl
    · rw [if_neg e] at ht
      exact x3 ((t3.1 t ht).2 (k, v) hkv)
  · have haF := hF ha
    have stays : ∀ zo0, ht_rp (N a) = .inr zo0 → ht_ch zo b = ht_ch zo0 b → (ht_rf (N' (ht_ch zo b)) = true → ht_rh (N' (ht_ch zo b)) = ht_h dg (255 - ht_rl (N' a)) (ht_U N' (l.erase (k, v)) (ht_ch zo b))) ∧ (ht_rf (N' a) = true → ht_rf (N' (ht_ch zo b)) = true) := by
      intro zo0 hz0 hch
      obtain ⟨z1, z2, z3⟩ := h.half haF hz0 b
      have z1' := (h'.half ha hz b).1
      rw [hch] at z1' ⊢
      obtain ⟨y1, y2⟩ := hf.2 a haF zo0 hz0 b
      refine ⟨fun hr => ?_, fun hr => ?_⟩
      · obtain ⟨x1, x2, x3, -⟩ := hfr _ z1' hr
        rw [x2, y1 x1, (hkl a haF).2, hU _ z1 x3]
      · obtain ⟨x1, x2, x3, -⟩ := hfr a ha hr
        refine hfk _ z1' (y2 x1) (fun q => x3 (h.back haF hz0 b q).1) (fun q => ?_)
        rcases hab with ⟨e, e2⟩ | ⟨c, zc, e, hc, hzc, hcP⟩
        · rw [if_pos e] at h'
          exact h'.noparent ha hz (b := b) (by rw [hch, q])
        · have hcF' : c ∈ (F.erase m).erase P := by
            rw [(t1.erase m).mem_erase_iff, t1.mem_erase_iff]
            refine ⟨fun z => ?_, fun z => ?_, hc⟩
            · have := (h.half hc hzc (ht_bit k (ht_rl (N c)))).2.2.1
              rw [hcP, z] at this; omega
            · rw [z, hmv] at hzc; cases hzc
          have := h'.parent ha hcF' hz (hpa c zc e hzc) (b := b) (b' := ht_bit k (ht_rl (N c))) (by rw [hch, q, ht_zo_self])
          subst this
          exact x3 (hck a zc hc hzc hcP)
    by_cases hna : ab = some a
    · rcases hab with ⟨e', -⟩ | ⟨c, zc, e', hc, hzc, hcP⟩
      · rw [hna] at e'; cases e'
      · rw [hna] at e'; cases e'
        have hz2 := hz
        rw [hpa a zc hna hzc] at hz2
        cases hz2
        by_cases hb : b = ht_bit k (ht_rl (N a))
        · subst hb
          have z1' := (h'.half ha hz (ht_bit k (ht_rl (N a)))).1
          rw [ht_zo_self] at z1' ⊢
          exact ⟨fun hr => absurd rfl (hfr o z1' hr).2.2.2, fun hr => absurd (hck a zc hc hzc hcP) (hfr a ha hr).2.2.1⟩
        · have hb' : b = !ht_bit k (ht_rl (N a)) := by cases b <;> cases hx : ht_bit k (ht_rl (N a)) <;> simp_all
          refine stays zc hzc ?_
          rw [hb', ht_zo_other]
    · have hz2 := hz
      rw [hpn a haF hna] at hz2
      exact stays zo hz2 rfl
end
section
/-! The hash of a node's keys at the levels above it. -/
theorem ht_len2 {α : Type} {l : List α} {x y : α} (hx : x ∈ l) (hy : y ∈ l) (hne : x ≠ y) : 2 ≤ l.length := by
  match l, hx, hy with
  | [z], hx, hy =>
    rw [List.mem_singleton] at hx hy
    exact absurd (hx.trans hy.symm) hne
  | z :: z' :: t, _, _ => simp
theorem ht_U_mem {N : ht_N} {l : ht_L} {a : Nat} {q : ht_K × ht_K} : q ∈ ht_U N l a ↔ q ∈ l ∧ ht_in N a q.1 := by
  unfold ht_U ht_in
  rw [List.mem_filter]
  exact ⟨fun x => ⟨x.1, of_decide_eq_true x.2⟩, fun x => ⟨x.1, decide_eq_true x.2⟩⟩
theorem ht_T.len {N : ht_N} {F : List Nat} {top : Option Nat} {l : ht_L} (h : ht_T N F top l) {a : Nat} (ha : a ∈ F) {zo : Nat × Nat} (hp : ht_rp (N a) = .inr zo) : 2 ≤ (ht_U N l a).length := by
  obtain ⟨q0, m0, i0, b0, -⟩ := h.side ha hp false
  obtain ⟨q1, m1, i1, b1, -⟩ := h.side ha hp true
  refine ht_len2 (ht_U_mem.mpr ⟨m0, i0⟩) (ht_U_mem.mpr ⟨m1, i1⟩) (fun e => ?_)
  rw [e, b1] at b0
  cases b0
theorem ht_T.U_half {N : ht_N} {F : List Nat} {top : Option Nat} {l : ht_L} (h : ht_T N F top l) {a : Nat} (ha : a ∈ F) {zo : Nat × Nat} (hp : ht_rp (N a) = .inr zo) (b : Bool) (f : ht_K × ht_K → Bool) (hf : ∀ q, f q = true ↔ ht_bit q.1 (ht_rl (N a)) = b) : (ht_U N l a).filter f = ht_U N l (ht_ch zo b) := by
  obtain ⟨z1, z2, z3⟩ := h.half ha hp b
  unfold ht_U
  rw [List.filter_filter]
  refine List.filter_congr (fun q hq => ?_)
  have := z3.2 q hq
  unfold ht_in at this
  rw [Bool.eq_iff_iff, Bool.and_eq_true, decide_eq_true_iff, decide_eq_true_iff, hf, ← this]
  exact And.comm
theorem ht_T.hash_b (dg : Int32 → ht_K → ht_K → ht_K) {N : ht_N} {F : List Nat} {top : Option Nat} {l : ht_L} (h : ht_T N F top l) {a : Nat} (ha : a ∈ F) {zo : Nat × Nat} (hp : ht_rp (N a) = .inr zo) : ht_h dg (256 - ht_rl (N a)) (ht_U N l a) = dg 1 (ht_h dg (255 - ht_rl (N a)) (ht_U N l zo.1)) (ht_h dg (255 - ht_rl (N a)) (ht_U N l zo.2)) := by
  have hlt := (h.half ha hp false).2.1
  have e : 256 - ht_rl (N a) = (255 - ht_rl (N a)) + 1 := by omega
  rw [e, ht_h_more dg _ (h.len ha hp)]
  have e2 : 255 - (255 - ht_rl (N a)) = ht_rl (N a) := by omega
  rw [e2, h.U_half ha hp false _ (fun q => by cases ht_bit q.1 (ht_rl (N a)) <;> simp), h.U_half ha hp true _ (fun q => Iff.rfl)]
  rfl
theorem ht_T.hash_c (dg : Int32 → ht_K → ht_K → ht_K) {N : ht_N} {F : List Nat} {top : Option Nat} {l : ht_L} (h : ht_T N F top l) {a : Nat} (ha : a ∈ F) {zo : Nat × Nat} (hp : ht_rp (N a) = .inr zo) {d : Nat} (hd : d < ht_rl (N a)) : ht_h dg (256 - d) (ht_U N l a) = if ht_bit (ht_rk (N a)) d then dg 1 ht_kz (ht_h dg (255 - d) (ht_U N l a)) else dg 1 (ht_h dg (255 - d) (ht_U N l a)) ht_kz := by
  have hlt := (h.half ha hp false).2.1
  have e : 256 - d = (255 - d) + 1 := by omega
  rw [e]
  refine ht_h_side dg _ (h.len ha hp) _ (fun q hq => ?_)
  have e2 : 255 - (255 - d) = d := by omega
  rw [e2]
  exact (((ht_in_ag (h.lv ha)).mp (ht_U_mem.mp hq).2) d hd).symm
theorem ht_one : ∀ {l : ht_L}, (l.map (·.1)).Nodup → ∀ {q : ht_K × ht_K}, q ∈ l → ∀ (f : ht_K × ht_K → Bool), (∀ x ∈ l, f x = true ↔ q.1 = x.1) → l.filter f = [q] := by
  intro l
  induction l with
  | nil => intro _ q hq; cases hq
  | cons x t ih =>
    intro h q hq f hf
    rw [List.map_cons] at h
    obtain ⟨h1, h2⟩ := List.nodup_cons.mp h
    rcases List.mem_cons.mp hq with e | e
    · subst e
      rw [List.filter_cons, if_pos ((hf q List.mem_cons_self).mpr rfl), List.filter_eq_nil_iff.mpr]
      intro y hy hfy
      exact h1 (List.mem_map.mpr ⟨y, hy, ((hf y (List.mem_cons_of_mem _ hy)).mp hfy).symm⟩)
    · rw [List.filter_cons, if_neg, ih h2 e f (fun y hy => hf y (List.mem_cons_of_mem _ hy))]
      intro hfx
      exact h1 (List.mem_map.mpr ⟨q, e, (hf x List.mem_cons_self).mp hfx⟩)
theorem ht_T.U_leaf {N : ht_N} {F : List Nat} {top : Option Nat} {l : ht_L} (h : ht_T N F top l) {a : Nat} (ha : a ∈ F) {v : ht_K} (hp : ht_rp (N a) = .inl v) : ht_U N l a = [(ht_rk (N a), v)] := by
  refine ht_one h.2.1 (h.2.2.2.1 a ha v hp).2 _ (fun x _ => ?_)
  have := h.leaf_in ha hp x.1
  unfold ht_in at this
  rw [decide_eq_true_iff]
  exact this
end
section
/-! Counting what is stale. -/
def ht_st (N : ht_N) (F : List Nat) : Nat := (F.filter (fun a => !ht_rf (N a))).length
theorem ht_cnt {p p' : Nat → Bool} {a : Nat} (hp : p a = true) (hp' : p' a = false) (ho : ∀ x, x ≠ a → p' x = p x) : ∀ {F : List Nat}, F.Nodup → a ∈ F → (F.filter p').length + 1 = (F.filter p).length := by
  intro F
  induction F with
  | nil => intro _ h; cases h
  | cons x t ih =>
    intro hn ha
    obtain ⟨h1, h2⟩ := List.nodup_cons.mp hn
    rcases List.mem_cons.mp ha with e | e
    · subst e
      rw [List.filter_cons, List.filter_cons, if_neg (by rw [hp']; decide), if_pos hp, List.length_cons]
      have : t.filter p' = t.filter p := List.filter_congr (fun y hy => ho y (fun z => h1 (z ▸ hy)))
      rw [this]
    · have hx : x ≠ a := fun z => h1 (z ▸ e)
      have := ih h2 e
      rw [List.filter_cons, List.filter_cons, ho x hx]
      cases p x with
      | true => simp only [if_true, List.length_cons]; omega
      | false => simp only [Bool.false_eq_true, if_false]; omega
theorem ht_sub_len : ∀ {S F : List Nat}, S.Nodup → (∀ x ∈ S, x ∈ F) → S.length ≤ F.length := by
  intro S
  induction S with
  | nil => intro F _ _; exact Nat.zero_le _
  | cons x t ih =>
    intro F hn hs
    obtain ⟨h1, h2⟩ := List.nodup_cons.mp hn
    have hx := hs x List.mem_cons_self
    have := ih (F := F.erase x) h2 (fun y hy => (List.mem_erase_of_ne (fun (z : y = x) => h1 (by rw [← z]; exact hy))).mpr (hs y (List.mem_cons_of_mem _ hy)))
    rw [List.length_erase_of_mem hx] at this
    have hpos := List.length_pos_of_mem hx
    rw [List.length_cons]
    omega
end
section
set_option maxHeartbeats 4000000 in
set_option maxRecDepth 100000 in
theorem c_JI_rotateRight (l : Launch) (g : ht_G) (w : ht_W) (x d : Int32) : Met l y_JI_rotateRight ws_JI_rotateRight ({ frames := 0, cells := 0, slots := 0, locals := 0 } : Room) (va_Pc [.int x, .int d] (ht_WS g w)) (ht_Qi g (fun r u => r = ht_rr x d ∧ w = u)) 0 0 (ht_A g) := by
  refine Met.ofW (cc := b_JI_rotateRight) (maxL := 2) (ret := (some .int)) (by decide) rfl ?_
  intro p e s m args below meth c s₁ BB hml hv
  obtain ⟨rfl, HW⟩ := hv
  have HW := ht_I.start HW
  have hx := BB.exec
  have hb := BB.bytes
  have hr := BB.returns
  have hts := atoms_spec (ws := ws_JI_rotateRight) BB.pre
  have htb : ∀ w ∈ bg, w.before _ s = true := fun w h => hts w (List.mem_cons_of_mem _ h)
  have hown : s.vm.findClass R_JI = some m.cls := findClass_of_methodNamed BB.named
  have hlocks := BB.notSynchronized
  have hl := lv_entry ([.int x, .int d]) (n := 2) (Nat.le_of_ble_eq_true rfl)
  rw [lg_entry_eq]
  generalize (lg_sl ([.int x, .int d]) ++ List.replicate (2 - (lg_sl ([.int x, .int d])).length) Slot.unset).toArray = ls at hl ⊢
  have hl : lv_has ls 2 [(0, .int x), (1, .int d)] := hl
  refine lv_iload_n hx hb d_JI_rotateRight_0 rfl (lv_at hl 0 rfl) ?_
  refine lv_iload_n hx hb d_JI_rotateRight_1 rfl (lv_at hl 1 rfl) ?_
  refine lv_iushr (v := ht_us x d) hx hb d_JI_rotateRight_2 rfl ?_
  refine lv_iload_n hx hb d_JI_rotateRight_3 rfl (lv_at hl 0 rfl) ?_
  refine lv_iload_n hx hb d_JI_rotateRight_4 rfl (lv_at hl 1 rfl) ?_
  refine lv_ineg hx hb d_JI_rotateRight_5 ?_
  refine lv_ishl hx hb d_JI_rotateRight_6 ?_
  refine lv_ior hx hb d_JI_rotateRight_7 ?_
  exact ht_iret hx hb hr hlocks HW ⟨rfl, rfl⟩ d_JI_rotateRight_8
end
section
theorem ht_sb {x y : Int32} {a b c : Nat} (hx : x = nI a) (hy : y = nI b) (h : a = b + c) : x - y = nI c := by
  rw [hx, hy, pk_sub (by omega)]
  congr 1
  omega
set_option maxHeartbeats 4000000 in
set_option maxRecDepth 100000 in
theorem c_D_spread (l : Launch) (g : ht_G) (w : ht_W) {dg wd wa : Nat} {ws wf : Nat → Int32} {n0 : Int32} (hD : ht_Dg g w dg wd wa (ws, wf, n0)) : Met l y_D_spread ws_D_spread ({ frames := 1, cells := 0, slots := 0, locals := 21 } : Room) (va_Pc [.ref dg] (ht_WS g w)) (ht_Qv g (fun u => u = ht_dw g w dg wd wa (ws, ht_sp 48 wf, n0))) 0 0 (ht_A g) := by
  refine Met.ofW (cc := b_D_spread) (maxL := 6) (ret := none) (by decide) rfl ?_
  intro p e s m args below meth c s₁ BB hml hv
  obtain ⟨rfl, HW⟩ := hv
  have HW := ht_I.start HW
  have hx := BB.exec
  have hb := BB.bytes
  have hr := BB.returns
  have hts := atoms_spec (ws := ws_D_spread) BB.pre
  have htb : ∀ w ∈ bg, w.before _ s = true := fun w h => hts w (List.mem_cons_of_mem _ h)
  have hown : s.vm.findClass R_D = some m.cls := findClass_of_methodNamed BB.named
  have hlocks := BB.notSynchronized
  have hl := lv_entry ([.ref dg]) (n := 6) (Nat.le_of_ble_eq_true rfl)
  rw [lg_entry_eq]
  generalize (lg_sl ([.ref dg]) ++ List.replicate (6 - (lg_sl ([.ref dg])).length) Slot.unset).toArray = ls at hl ⊢
  have hl : lv_has ls 6 [(0, .ref dg)] := hl
  have loop : ∀ (n k : Nat), k + n = 48 → ∀ (H : Heap) (locs : List Loc) (ls : Array Slot) (t : Int32), t = nI (16 + k) → ht_I g s (ht_dw g w dg wd wa (ws, ht_sp k wf, n0)) H locs → lv_has ls 6 [(0, .ref dg), (1, .int t)] → W p l e (headSpec ws_D_spread ({ frames := 1, cells := 0, slots := 0, locals := 21 } : Room)).room s m ([.ref dg] : List Value).toArray below meth c H locs 0 0 (MQ below (ht_Qv g (fun u => u = ht_dw g w dg wd wa (ws, ht_sp 48 wf, n0))) ([.ref dg] : List Value).toArray s 0 0 (ht_A g)) (F0 m 3 ls []) := by
    intro n
    induction n with
    | zero =>
      intro k hk H locs ls t et HW hl
      obtain ⟨w1, hw1⟩ : ∃ z, z = ht_dw g w dg wd wa (ws, ht_sp k wf, n0) := ⟨_, rfl⟩
      rw [← hw1] at HW
      have hD1 : ht_Dg g w1 dg wd wa (ws, ht_sp k wf, n0) := by rw [hw1]; exact hD.up
      obtain ⟨h_dg, h_wd, h_wa⟩ := id hD1
      refine lv_iload_n hx hb d_D_spread_3 rfl (lv_at hl 1 rfl) ?_
      refine lv_bipush (v := 64) hx hb d_D_spread_4 (by decide) ?_
      refine lv_icmp_ge (tgt := 104) hx hb d_D_spread_6 (by decide) (fun c6 => ?_) (fun c6 => ?_)
      · have hk48 : k = 48 := by omega
        exact ht_vret hx hb hr hlocks HW (hk48 ▸ hw1) d_D_spread_104
      · exact absurd (nI_le (show 64 ≤ 16 + k by omega) (by omega)) (by rw [et] at c6; exact c6)
    | succ n ih =>
      intro k hk H locs ls t et HW hl
      obtain ⟨w1, hw1⟩ : ∃ z, z = ht_dw g w dg wd wa (ws, ht_sp k wf, n0) := ⟨_, rfl⟩
      rw [← hw1] at HW
      have hD1 : ht_Dg g w1 dg wd wa (ws, ht_sp k wf, n0) := by rw [hw1]; exact hD.up
      obtain ⟨h_dg, h_wd, h_wa⟩ := id hD1
      refine lv_iload_n hx hb d_D_spread_3 rfl (lv_at hl 1 rfl) ?_
      refine lv_bipush (v := 64) hx hb d_D_spread_4 (by decide) ?_
      refine lv_icmp_ge (tgt := 104) hx hb d_D_spread_6 (by decide) (fun c6 => ?_) (fun c6 => ?_)
      · exact absurd (show nI 64 ≤ nI (16 + k) by rw [et] at c6; exact c6) (nI_ge (by omega) (by omega))
      · refine lv_aload_n hx hb d_D_spread_9 rfl (lv_at hl 0 rfl) ?_
        refine ht_get (C := R_D) (T := F_D) (N := 3) (v := .ref wa) hx hb htb i_D hown HW h_dg rfl 1 (by decide) (htb _ wd_27) (fun _ h9 => h9) rfl d_D_spread_10 ?_
        refine lv_iload_n hx hb d_D_spread_13 rfl (lv_at hl 1 rfl) ?_
        refine lv_bipush (v := 15) hx hb d_D_spread_14 (by decide) ?_
        refine lv_isub hx hb d_D_spread_16 ?_
        refine lv_topi (fun i1 ei1 => ?_)
        have hi1 : i1 = nI (k + 1) := by rw [ei1]; exact ht_sb (b := 15) et rfl (by omega)
        refine ht_iald hx hb HW h_wa (by rw [hi1]; exact vp_in_nI (by omega) (by omega)) d_D_spread_17 ?_
        refine lv_topi (fun z1 ez1 => ?_)
        have ez1 : z1 = (ht_sp k wf) (k + 1) := by rw [ez1, hi1, nI_clamp (by omega)]
        refine lv_istore_n (lv' := [(2, .int z1), (0, .ref dg), (1, .int t)]) hx hb d_D_spread_18 rfl hl (by decide) rfl (fun ls hl => ?_)
        refine lv_aload_n hx hb d_D_spread_19 rfl (lv_at hl 1 rfl) ?_
        refine ht_get (C := R_D) (T := F_D) (N := 3) (v := .ref wa) hx hb htb i_D hown HW h_dg rfl 1 (by decide) (htb _ wd_27) (fun _ h9 => h9) rfl d_D_spread_20 ?_
        refine lv_iload_n hx hb d_D_spread_23 rfl (lv_at hl 2 rfl) ?_
        refine lv_iconst (v := 2) hx hb d_D_spread_24 (by decide) ?_
        refine lv_isub hx hb d_D_spread_25 ?_
        refine lv_topi (fun i2 ei2 => ?_)
        have hi2 : i2 = nI (k + 14) := by rw [ei2]; exact ht_sb (b := 2) et rfl (by omega)
        refine ht_iald hx hb HW h_wa (by rw [hi2]; exact vp_in_nI (by omega) (by omega)) d_D_spread_26 ?_
        refine lv_topi (fun z2 ez2 => ?_)
        have ez2 : z2 = (ht_sp k wf) (k + 14) := by rw [ez2, hi2, nI_clamp (by omega)]
        refine lv_istore_n (lv' := [(3, .int z2), (2, .int z1), (0, .ref dg), (1, .int t)]) hx hb d_D_spread_27 rfl hl (by decide) rfl (fun ls hl => ?_)
        refine lv_iload_n hx hb d_D_spread_28 rfl (lv_at hl 1 rfl) ?_
        refine lv_bipush (v := 7) hx hb d_D_spread_29 (by decide) ?_
        refine ht_ci HW (va_runS (own := R_D) (As := [.int z1, .int 7]) (rest := []) ⟨hx, hb, hml, hown, htb⟩ (c_JI_rotateRight l g w1 z1 (7 : Int32)) (va_cwS 2 htb (ht_gs wd_242 wd_243 wd_5 g_JI_rotateRight) rfl rfl rfl (by decide +kernel) ⟨Nat.le_of_ble_eq_true rfl, Nat.le_of_ble_eq_true rfl⟩) (HW.preS _) rfl rfl hl.1 rfl (lv_room (Nat.le_of_ble_eq_true rfl)) d_D_spread_31 ⟨Nat.le_of_ble_eq_true rfl, Nat.le_of_ble_eq_true rfl⟩) (fun q4 u3 H locs pu3 HW => ?_)
        obtain ⟨eq4, eu3⟩ := pu3
        subst eu3
        refine lv_iload_n hx hb d_D_spread_34 rfl (lv_at hl 1 rfl) ?_
        refine lv_bipush (v := 18) hx hb d_D_spread_35 (by decide) ?_
        refine ht_ci HW (va_runS (own := R_D) (As := [.int z1, .int 18]) (rest := [.int q4]) ⟨hx, hb, hml, hown, htb⟩ (c_JI_rotateRight l g w1 z1 (18 : Int32)) (va_cwS 2 htb (ht_gs wd_242 wd_243 wd_5 g_JI_rotateRight) rfl rfl rfl (by decide +kernel) ⟨Nat.le_of_ble_eq_true rfl, Nat.le_of_ble_eq_true rfl⟩) (HW.preS _) rfl rfl hl.1 rfl (lv_room (Nat.le_of_ble_eq_true rfl)) d_D_spread_37 ⟨Nat.le_of_ble_eq_true rfl, Nat.le_of_ble_eq_true rfl⟩) (fun q6 u5 H locs pu5 HW => ?_)
        obtain ⟨eq6, eu5⟩ := pu5
        subst eu5
        refine lv_ixor hx hb d_D_spread_40 ?_
        refine lv_iload_n hx hb d_D_spread_41 rfl (lv_at hl 1 rfl) ?_
        refine lv_iconst (v := 3) hx hb d_D_spread_42 (by decide) ?_
        refine lv_iushr (v := ht_us z1 (3 : Int32)) hx hb d_D_spread_43 rfl ?_
        refine lv_ixor hx hb d_D_spread_44 ?_
        refine lv_topi (fun z7 ez7 => ?_)
        refine lv_istore (lv' := [(4, .int z7), (3, .int z2), (2, .int z1), (0, .ref dg), (1, .int t)]) hx hb d_D_spread_45 hl (by decide) rfl (fun ls hl => ?_)
        refine lv_iload_n hx hb d_D_spread_47 rfl (lv_at hl 1 rfl) ?_
        refine lv_bipush (v := 17) hx hb d_D_spread_48 (by decide) ?_
        refine ht_ci HW (va_runS (own := R_D) (As := [.int z2, .int 17]) (rest := []) ⟨hx, hb, hml, hown, htb⟩ (c_JI_rotateRight l g w1 z2 (17 : Int32)) (va_cwS 2 htb (ht_gs wd_242 wd_243 wd_5 g_JI_rotateRight) rfl rfl rfl (by decide +kernel) ⟨Nat.le_of_ble_eq_true rfl, Nat.le_of_ble_eq_true rfl⟩) (HW.preS _) rfl rfl hl.1 rfl (lv_room (Nat.le_of_ble_eq_true rfl)) d_D_spread_50 ⟨Nat.le_of_ble_eq_true rfl, Nat.le_of_ble_eq_true rfl⟩) (fun q9 u8 H locs pu8 HW => ?_)
        obtain ⟨eq9, eu8⟩ := pu8
        subst eu8
        refine lv_iload_n hx hb d_D_spread_53 rfl (lv_at hl 1 rfl) ?_
        refine lv_bipush (v := 19) hx hb d_D_spread_54 (by decide) ?_
        refine ht_ci HW (va_runS (own := R_D) (As := [.int z2, .int 19]) (rest := [.int q9]) ⟨hx, hb, hml, hown, htb⟩ (c_JI_rotateRight l g w1 z2 (19 : Int32)) (va_cwS 2 htb (ht_gs wd_242 wd_243 wd_5 g_JI_rotateRight) rfl rfl rfl (by decide +kernel) ⟨Nat.le_of_ble_eq_true rfl, Nat.le_of_ble_eq_true rfl⟩) (HW.preS _) rfl rfl hl.1 rfl (lv_room (Nat.le_of_ble_eq_true rfl)) d_D_spread_56 ⟨Nat.le_of_ble_eq_true rfl, Nat.le_of_ble_eq_true rfl⟩) (fun q11 u10 H locs pu10 HW => ?_)
        obtain ⟨eq11, eu10⟩ := pu10
        subst eu10
        refine lv_ixor hx hb d_D_spread_59 ?_
        refine lv_iload_n hx hb d_D_spread_60 rfl (lv_at hl 1 rfl) ?_
        refine lv_bipush (v := 10) hx hb d_D_spread_61 (by decide) ?_
        refine lv_iushr (v := ht_us z2 (10 : Int32)) hx hb d_D_spread_63 rfl ?_
        refine lv_ixor hx hb d_D_spread_64 ?_
        refine lv_topi (fun z12 ez12 => ?_)
        refine lv_istore (lv' := [(5, .int z12), (4, .int z7), (3, .int z2), (2, .int z1), (0, .ref dg), (1, .int t)]) hx hb d_D_spread_65 hl (by decide) rfl (fun ls hl => ?_)
        refine lv_aload_n hx hb d_D_spread_67 rfl (lv_at hl 4 rfl) ?_
        refine ht_get (C := R_D) (T := F_D) (N := 3) (v := .ref wa) hx hb htb i_D hown HW h_dg rfl 1 (by decide) (htb _ wd_27) (fun _ h9 => h9) rfl d_D_spread_68 ?_
        refine lv_iload_n hx hb d_D_spread_71 rfl (lv_at hl 5 rfl) ?_
        refine lv_aload_n hx hb d_D_spread_72 rfl (lv_at hl 4 rfl) ?_
        refine ht_get (C := R_D) (T := F_D) (N := 3) (v := .ref wa) hx hb htb i_D hown HW h_dg rfl 1 (by decide) (htb _ wd_27) (fun _ h9 => h9) rfl d_D_spread_73 ?_
        refine lv_iload_n hx hb d_D_spread_76 rfl (lv_at hl 5 rfl) ?_
        refine lv_bipush (v := 16) hx hb d_D_spread_77 (by decide) ?_
        refine lv_isub hx hb d_D_spread_79 ?_
        refine lv_topi (fun i3 ei3 => ?_)
        have hi3 : i3 = nI (k) := by rw [ei3]; exact ht_sb (b := 16) et rfl (by omega)
        refine ht_iald hx hb HW h_wa (by rw [hi3]; exact vp_in_nI (by omega) (by omega)) d_D_spread_80 ?_
        refine lv_topi (fun z13 ez13 => ?_)
        have ez13 : z13 = (ht_sp k wf) k := by rw [ez13, hi3, nI_clamp (by omega)]
        refine lv_iload hx hb d_D_spread_81 (lv_at hl 1 rfl) ?_
        refine lv_iadd hx hb d_D_spread_83 ?_
        refine lv_aload_n hx hb d_D_spread_84 rfl (lv_at hl 4 rfl) ?_
        refine ht_get (C := R_D) (T := F_D) (N := 3) (v := .ref wa) hx hb htb i_D hown HW h_dg rfl 1 (by decide) (htb _ wd_27) (fun _ h9 => h9) rfl d_D_spread_85 ?_
        refine lv_iload_n hx hb d_D_spread_88 rfl (lv_at hl 5 rfl) ?_
        refine lv_bipush (v := 7) hx hb d_D_spread_89 (by decide) ?_
        refine lv_isub hx hb d_D_spread_91 ?_
        refine lv_topi (fun i4 ei4 => ?_)
        have hi4 : i4 = nI (k + 9) := by rw [ei4]; exact ht_sb (b := 7) et rfl (by omega)
        refine ht_iald hx hb HW h_wa (by rw [hi4]; exact vp_in_nI (by omega) (by omega)) d_D_spread_92 ?_
        refine lv_topi (fun z14 ez14 => ?_)
        have ez14 : z14 = (ht_sp k wf) (k + 9) := by rw [ez14, hi4, nI_clamp (by omega)]
        refine lv_iadd hx hb d_D_spread_93 ?_
        refine lv_iload hx hb d_D_spread_94 (lv_at hl 0 rfl) ?_
        refine lv_iadd hx hb d_D_spread_96 ?_
        refine ht_iast hx hb HW h_wa (by rw [et]; exact vp_in_nI (by omega) (by omega)) d_D_spread_97 (fun H locs HW => ?_)
        rw [et, nI_clamp (by omega)] at HW
        obtain ⟨u15, hu15⟩ : ∃ z, z = ht_up w1 wa (ht_ai g 64 (upd (ht_sp k wf) (16 + k) (((z13 + z7) + z14) + z12))) := ⟨_, rfl⟩
        have HW : ht_I g s u15 H locs := by rw [hu15]; exact HW
        have h_dg : ht_at u15 dg (.inr (1, [.ref wd, .ref wa, .int n0]) : va_E) := by rw [hu15]; exact ht_at_ne h_dg hD1.n2
        have h_wd : ht_at u15 wd (ht_ai g 8 ws) := by rw [hu15]; exact ht_at_ne h_wd hD1.n3
        have h_wa : ht_at u15 wa (ht_ai g 64 (upd (ht_sp k wf) (16 + k) (((z13 + z7) + z14) + z12))) := by rw [hu15]; exact ht_at_self h_wa
        obtain ⟨t2, et2⟩ : ∃ y : Int32, y = t + 1 := ⟨_, rfl⟩
        refine lv_iinc (v := t2) (lv' := [(1, .int t2), (5, .int z12), (4, .int z7), (3, .int z2), (2, .int z1), (0, .ref dg)]) hx hb d_D_spread_98 hl (k := 5) rfl (by rw [et2]; rfl) (by decide) rfl (fun ls hl => ?_)
        refine lv_goto (tgt := 3) hx hb d_D_spread_101 (by decide) ?_
        refine ih (k + 1) (by omega) _ _ _ t2 (by rw [et2, et, nI_1]; rfl) (HW.to ?_) (lv_sub hl [5, 0] rfl)
        rw [hu15, hw1]
        unfold ht_dw
        rw [ht_up_up]
        simp only [ei1, ez1, ei2, ez2, eq4, eq6, ez7, eq9, eq11, ez12, ei3, ez13, ei4, ez14]
        rfl
  refine lv_bipush (v := 16) hx hb d_D_spread_0 (by decide) ?_
  refine lv_istore_n (lv' := [(1, .int 16), (0, .ref dg)]) hx hb d_D_spread_2 rfl hl (by decide) rfl (fun ls hl => ?_)
  exact loop 48 0 rfl _ _ _ 16 rfl (HW.to hD.self.symm) (lv_sub hl [1, 0] rfl)
end
section
def ht_kt (j : Nat) : Int32 := ht_k64.getD j 0
theorem ht_fin {g : ht_G} {w : ht_W} {dg wd wa : Nat} {ws wf : Nat → Int32} {n0 : Int32} (hD : ht_Dg g w dg wd wa (ws, wf, n0)) (f : Nat → Int32) : ht_up w wd (ht_ai g 8 f) = ht_dw g w dg wd wa (f, wf, n0) := by
  unfold ht_dw
  rw [ht_up_id hD.1, ht_up_id (ht_at_ne hD.2.2 hD.n3.symm)]
set_option maxHeartbeats 4000000 in
set_option maxRecDepth 100000 in
theorem c_D_mix (l : Launch) (g : ht_G) (w : ht_W) {dg wd wa : Nat} {ws wf : Nat → Int32} {n0 : Int32} (hD : ht_Dg g w dg wd wa (ws, wf, n0)) : Met l y_D_mix ws_D_mix ({ frames := 1, cells := 0, slots := 0, locals := 21 } : Room) (va_Pc [.ref dg] (ht_WS g w)) (ht_Qv g (fun u => u = ht_dw g w dg wd wa (ht_ad ws (ht_rn wf (ht_o8 ws) 64), wf, n0))) 0 0 (ht_A g) := by
  refine Met.ofW (cc := b_D_mix) (maxL := 14) (ret := none) (by decide) rfl ?_
  intro p e s m args below meth c s₁ BB hml hv
  obtain ⟨rfl, HW⟩ := hv
  have HW := ht_I.start HW
  have hx := BB.exec
  have hb := BB.bytes
  have hr := BB.returns
  have hts := atoms_spec (ws := ws_D_mix) BB.pre
  have htb : ∀ w ∈ bg, w.before _ s = true := fun w h => hts w (List.mem_cons_of_mem _ h)
  have hown : s.vm.findClass R_D = some m.cls := findClass_of_methodNamed BB.named
  have hlocks := BB.notSynchronized
  have hl := lv_entry ([.ref dg]) (n := 14) (Nat.le_of_ble_eq_true rfl)
  rw [lg_entry_eq]
  generalize (lg_sl ([.ref dg]) ++ List.replicate (14 - (lg_sl ([.ref dg])).length) Slot.unset).toArray = ls at hl ⊢
  have hl : lv_has ls 14 [(0, .ref dg)] := hl
  have loop : ∀ (n k : Nat), k + n = 64 → ∀ (a1 a2 a3 a4 a5 a6 a7 a8 : Int32), (a1, a2, a3, a4, a5, a6, a7, a8) = ht_rn wf (ht_o8 ws) k → ∀ (H : Heap) (locs : List Loc) (ls : Array Slot) (t : Int32), t = nI k → ht_I g s w H locs → lv_has ls 14 [(0, .ref dg), (1, .int a1), (2, .int a2), (3, .int a3), (4, .int a4), (5, .int a5), (6, .int a6), (7, .int a7), (8, .int a8), (9, .int t)] → W p l e (headSpec ws_D_mix ({ frames := 1, cells := 0, slots := 0, locals := 21 } : Room)).room s m ([.ref dg] : List Value).toArray below meth c H locs 0 0 (MQ below (ht_Qv g (fun u => u = ht_dw g w dg wd wa (ht_ad ws (ht_rn wf (ht_o8 ws) 64), wf, n0))) ([.ref dg] : List Value).toArray s 0 0 (ht_A g)) (F0 m 66 ls []) := by
    intro n
    induction n with
    | zero =>
      intro k hk a1 a2 a3 a4 a5 a6 a7 a8 ha H locs ls t et HW hl
      obtain ⟨h_dg, h_wd, h_wa⟩ := id hD
      refine lv_iload hx hb d_D_mix_66 (lv_at hl 9 rfl) ?_
      refine lv_bipush (v := 64) hx hb d_D_mix_68 (by decide) ?_
      refine lv_icmp_ge (tgt := 209) hx hb d_D_mix_70 (by decide) (fun c70 => ?_) (fun c70 => ?_)
      · refine lv_aload_n hx hb d_D_mix_209 rfl (lv_at hl 0 rfl) ?_
        refine ht_get (C := R_D) (T := F_D) (N := 3) (v := .ref wd) hx hb htb i_D hown HW h_dg rfl 0 (by decide) (htb _ wd_26) (fun _ h9 => h9) rfl d_D_mix_210 ?_
        refine lv_iconst (v := 0) hx hb d_D_mix_213 (by decide) ?_
        refine lv_dup2_11 hx hb d_D_mix_214 rfl rfl ?_
        refine ht_iald hx hb HW h_wd (by unfold vp_in; decide) d_D_mix_215 ?_
        refine lv_topi (fun z1 ez1 => ?_)
        have ez1 : z1 = ws 0 := ez1
        refine lv_iload_n hx hb d_D_mix_216 rfl (lv_at hl 1 rfl) ?_
        refine lv_iadd hx hb d_D_mix_217 ?_
        refine ht_iast hx hb HW h_wd (by unfold vp_in; decide) d_D_mix_218 (fun H locs HW => ?_)
        have n_wa_wd : wa ≠ wd := (Ne.symm hD.n3)
        obtain ⟨u2, hu2⟩ : ∃ z, z = ht_up w wd (ht_ai g 8 (upd ws 0 (z1 + a1))) := ⟨_, rfl⟩
        have HW : ht_I g s u2 H locs := by rw [hu2]; exact HW
        have h_dg : ht_at u2 dg (.inr (1, [.ref wd, .ref wa, .int n0]) : va_E) := by rw [hu2]; exact ht_at_ne h_dg hD.n1
        have h_wd : ht_at u2 wd (ht_ai g 8 (upd ws 0 (z1 + a1))) := by rw [hu2]; exact ht_at_self h_wd
        have h_wa : ht_at u2 wa (ht_ai g 64 wf) := by rw [hu2]; exact ht_at_ne h_wa n_wa_wd
        refine lv_aload_n hx hb d_D_mix_219 rfl (lv_at hl 0 rfl) ?_
        refine ht_get (C := R_D) (T := F_D) (N := 3) (v := .ref wd) hx hb htb i_D hown HW h_dg rfl 0 (by decide) (htb _ wd_26) (fun _ h9 => h9) rfl d_D_mix_220 ?_
        refine lv_iconst (v := 1) hx hb d_D_mix_223 (by decide) ?_
        refine lv_dup2_11 hx hb d_D_mix_224 rfl rfl ?_
        refine ht_iald hx hb HW h_wd (by unfold vp_in; decide) d_D_mix_225 ?_
        refine lv_topi (fun z3 ez3 => ?_)
        have ez3 : z3 = ws 1 := ez3
        refine lv_iload_n hx hb d_D_mix_226 rfl (lv_at hl 2 rfl) ?_
        refine lv_iadd hx hb d_D_mix_227 ?_
        refine ht_iast hx hb HW h_wd (by unfold vp_in; decide) d_D_mix_228 (fun H locs HW => ?_)
        obtain ⟨u4, hu4⟩ : ∃ z, z = ht_up u2 wd (ht_ai g 8 (upd (upd ws 0 (z1 + a1)) 1 (z3 + a2))) := ⟨_, rfl⟩
        have HW : ht_I g s u4 H locs := by rw [hu4]; exact HW
        have h_dg : ht_at u4 dg (.inr (1, [.ref wd, .ref wa, .int n0]) : va_E) := by rw [hu4]; exact ht_at_ne h_dg hD.n1
        have h_wd : ht_at u4 wd (ht_ai g 8 (upd (upd ws 0 (z1 + a1)) 1 (z3 + a2))) := by rw [hu4]; exact ht_at_self h_wd
        have h_wa : ht_at u4 wa (ht_ai g 64 wf) := by rw [hu4]; exact ht_at_ne h_wa n_wa_wd
        refine lv_aload_n hx hb d_D_mix_229 rfl (lv_at hl 0 rfl) ?_
        refine ht_get (C := R_D) (T := F_D) (N := 3) (v := .ref wd) hx hb htb i_D hown HW h_dg rfl 0 (by decide) (htb _ wd_26) (fun _ h9 => h9) rfl d_D_mix_230 ?_
        refine lv_iconst (v := 2) hx hb d_D_mix_233 (by decide) ?_
        refine lv_dup2_11 hx hb d_D_mix_234 rfl rfl ?_
        refine ht_iald hx hb HW h_wd (by unfold vp_in; decide) d_D_mix_235 ?_
        refine lv_topi (fun z5 ez5 => ?_)
        have ez5 : z5 = ws 2 := ez5
        refine lv_iload_n hx hb d_D_mix_236 rfl (lv_at hl 3 rfl) ?_
        refine lv_iadd hx hb d_D_mix_237 ?_
        refine ht_iast hx hb HW h_wd (by unfold vp_in; decide) d_D_mix_238 (fun H locs HW => ?_)
        obtain ⟨u6, hu6⟩ : ∃ z, z = ht_up u4 wd (ht_ai g 8 (upd (upd (upd ws 0 (z1 + a1)) 1 (z3 + a2)) 2 (z5 + a3))) := ⟨_, rfl⟩
        have HW : ht_I g s u6 H locs := by rw [hu6]; exact HW
        have h_dg : ht_at u6 dg (.inr (1, [.ref wd, .ref wa, .int n0]) : va_E) := by rw [hu6]; exact ht_at_ne h_dg hD.n1
        have h_wd : ht_at u6 wd (ht_ai g 8 (upd (upd (upd ws 0 (z1 + a1)) 1 (z3 + a2)) 2 (z5 + a3))) := by rw [hu6]; exact ht_at_self h_wd
        have h_wa : ht_at u6 wa (ht_ai g 64 wf) := by rw [hu6]; exact ht_at_ne h_wa n_wa_wd
        refine lv_aload_n hx hb d_D_mix_239 rfl (lv_at hl 0 rfl) ?_
        refine ht_get (C := R_D) (T := F_D) (N := 3) (v := .ref wd) hx hb htb i_D hown HW h_dg rfl 0 (by decide) (htb _ wd_26) (fun _ h9 => h9) rfl d_D_mix_240 ?_
        refine lv_iconst (v := 3) hx hb d_D_mix_243 (by decide) ?_
        refine lv_dup2_11 hx hb d_D_mix_244 rfl rfl ?_
        refine ht_iald hx hb HW h_wd (by unfold vp_in; decide) d_D_mix_245 ?_
        refine lv_topi (fun z7 ez7 => ?_)
        have ez7 : z7 = ws 3 := ez7
        refine lv_iload hx hb d_D_mix_246 (lv_at hl 4 rfl) ?_
        refine lv_iadd hx hb d_D_mix_248 ?_
        refine ht_iast hx hb HW h_wd (by unfold vp_in; decide) d_D_mix_249 (fun H locs HW => ?_)
        obtain ⟨u8, hu8⟩ : ∃ z, z = ht_up u6 wd (ht_ai g 8 (upd (upd (upd (upd ws 0 (z1 + a1)) 1 (z3 + a2)) 2 (z5 + a3)) 3 (z7 + a4))) := ⟨_, rfl⟩
        have HW : ht_I g s u8 H locs := by rw [hu8]; exact HW
        have h_dg : ht_at u8 dg (.inr (1, [.ref wd, .ref wa, .int n0]) : va_E) := by rw [hu8]; exact ht_at_ne h_dg hD.n1
        have h_wd : ht_at u8 wd (ht_ai g 8 (upd (upd (upd (upd ws 0 (z1 + a1)) 1 (z3 + a2)) 2 (z5 + a3)) 3 (z7 + a4))) := by rw [hu8]; exact ht_at_self h_wd
        have h_wa : ht_at u8 wa (ht_ai g 64 wf) := by rw [hu8]; exact ht_at_ne h_wa n_wa_wd
        refine lv_aload_n hx hb d_D_mix_250 rfl (lv_at hl 0 rfl) ?_
        refine ht_get (C := R_D) (T := F_D) (N := 3) (v := .ref wd) hx hb htb i_D hown HW h_dg rfl 0 (by decide) (htb _ wd_26) (fun _ h9 => h9) rfl d_D_mix_251 ?_
        refine lv_iconst (v := 4) hx hb d_D_mix_254 (by decide) ?_
        refine lv_dup2_11 hx hb d_D_mix_255 rfl rfl ?_
        refine ht_iald hx hb HW h_wd (by unfold vp_in; decide) d_D_mix_256 ?_
        refine lv_topi (fun z9 ez9 => ?_)
        have ez9 : z9 = ws 4 := ez9
        refine lv_iload hx hb d_D_mix_257 (lv_at hl 5 rfl) ?_
        refine lv_iadd hx hb d_D_mix_259 ?_
        refine ht_iast hx hb HW h_wd (by unfold vp_in; decide) d_D_mix_260 (fun H locs HW => ?_)
        obtain ⟨u10, hu10⟩ : ∃ z, z = ht_up u8 wd (ht_ai g 8 (upd (upd (upd (upd (upd ws 0 (z1 + a1)) 1 (z3 + a2)) 2 (z5 + a3)) 3 (z7 + a4)) 4 (z9 + a5))) := ⟨_, rfl⟩
        have HW : ht_I g s u10 H locs := by rw [hu10]; exact HW
        have h_dg : ht_at u10 dg (.inr (1, [.ref wd, .ref wa, .int n0]) : va_E) := by rw [hu10]; exact ht_at_ne h_dg hD.n1
        have h_wd : ht_at u10 wd (ht_ai g 8 (upd (upd (upd (upd (upd ws 0 (z1 + a1)) 1 (z3 + a2)) 2 (z5 + a3)) 3 (z7 + a4)) 4 (z9 + a5))) := by rw [hu10]; exact ht_at_self h_wd
        have h_wa : ht_at u10 wa (ht_ai g 64 wf) := by rw [hu10]; exact ht_at_ne h_wa n_wa_wd
        refine lv_aload_n hx hb d_D_mix_261 rfl (lv_at hl 0 rfl) ?_
        refine ht_get (C := R_D) (T := F_D) (N := 3) (v := .ref wd) hx hb htb i_D hown HW h_dg rfl 0 (by decide) (htb _ wd_26) (fun _ h9 => h9) rfl d_D_mix_262 ?_
        refine lv_iconst (v := 5) hx hb d_D_mix_265 (by decide) ?_
        refine lv_dup2_11 hx hb d_D_mix_266 rfl rfl ?_
        refine ht_iald hx hb HW h_wd (by unfold vp_in; decide) d_D_mix_267 ?_
        refine lv_topi (fun z11 ez11 => ?_)
        have ez11 : z11 = ws 5 := ez11
        refine lv_iload hx hb d_D_mix_268 (lv_at hl 6 rfl) ?_
        refine lv_iadd hx hb d_D_mix_270 ?_
        refine ht_iast hx hb HW h_wd (by unfold vp_in; decide) d_D_mix_271 (fun H locs HW => ?_)
        obtain ⟨u12, hu12⟩ : ∃ z, z = ht_up u10 wd (ht_ai g 8 (upd (upd (upd (upd (upd (upd ws 0 (z1 + a1)) 1 (z3 + a2)) 2 (z5 + a3)) 3 (z7 + a4)) 4 (z9 + a5)) 5 (z11 + a6))) := ⟨_, rfl⟩
        have HW : ht_I g s u12 H locs := by rw [hu12]; exact HW
        have h_dg : ht_at u12 dg (.inr (1, [.ref wd, .ref wa, .int n0]) : va_E) := by rw [hu12]; exact ht_at_ne h_dg hD.n1
        have h_wd : ht_at u12 wd (ht_ai g 8 (upd (upd (upd (upd (upd (upd ws 0 (z1 + a1)) 1 (z3 + a2)) 2 (z5 + a3)) 3 (z7 + a4)) 4 (z9 + a5)) 5 (z11 + a6))) := by rw [hu12]; exact ht_at_self h_wd
        have h_wa : ht_at u12 wa (ht_ai g 64 wf) := by rw [hu12]; exact ht_at_ne h_wa n_wa_wd
        refine lv_aload_n hx hb d_D_mix_272 rfl (lv_at hl 0 rfl) ?_
        refine ht_get (C := R_D) (T := F_D) (N := 3) (v := .ref wd) hx hb htb i_D hown HW h_dg rfl 0 (by decide) (htb _ wd_26) (fun _ h9 => h9) rfl d_D_mix_273 ?_
        refine lv_bipush (v := 6) hx hb d_D_mix_276 (by decide) ?_
        refine lv_dup2_11 hx hb d_D_mix_278 rfl rfl ?_
        refine ht_iald hx hb HW h_wd (by unfold vp_in; decide) d_D_mix_279 ?_
        refine lv_topi (fun z13 ez13 => ?_)
        have ez13 : z13 = ws 6 := ez13
        refine lv_iload hx hb d_D_mix_280 (lv_at hl 7 rfl) ?_
        refine lv_iadd hx hb d_D_mix_282 ?_
        refine ht_iast hx hb HW h_wd (by unfold vp_in; decide) d_D_mix_283 (fun H locs HW => ?_)
        obtain ⟨u14, hu14⟩ : ∃ z, z = ht_up u12 wd (ht_ai g 8 (upd (upd (upd (upd (upd (upd (upd ws 0 (z1 + a1)) 1 (z3 + a2)) 2 (z5 + a3)) 3 (z7 + a4)) 4 (z9 + a5)) 5 (z11 + a6)) 6 (z13 + a7))) := ⟨_, rfl⟩
        have HW : ht_I g s u14 H locs := by rw [hu14]; exact HW
        have h_dg : ht_at u14 dg (.inr (1, [.ref wd, .ref wa, .int n0]) : va_E) := by rw [hu14]; exact ht_at_ne h_dg hD.n1
        have h_wd : ht_at u14 wd (ht_ai g 8 (upd (upd (upd (upd (upd (upd (upd ws 0 (z1 + a1)) 1 (z3 + a2)) 2 (z5 + a3)) 3 (z7 + a4)) 4 (z9 + a5)) 5 (z11 + a6)) 6 (z13 + a7))) := by rw [hu14]; exact ht_at_self h_wd
        have h_wa : ht_at u14 wa (ht_ai g 64 wf) := by rw [hu14]; exact ht_at_ne h_wa n_wa_wd
        refine lv_aload_n hx hb d_D_mix_284 rfl (lv_at hl 0 rfl) ?_
        refine ht_get (C := R_D) (T := F_D) (N := 3) (v := .ref wd) hx hb htb i_D hown HW h_dg rfl 0 (by decide) (htb _ wd_26) (fun _ h9 => h9) rfl d_D_mix_285 ?_
        refine lv_bipush (v := 7) hx hb d_D_mix_288 (by decide) ?_
        refine lv_dup2_11 hx hb d_D_mix_290 rfl rfl ?_
        refine ht_iald hx hb HW h_wd (by unfold vp_in; decide) d_D_mix_291 ?_
        refine lv_topi (fun z15 ez15 => ?_)
        have ez15 : z15 = ws 7 := ez15
        refine lv_iload hx hb d_D_mix_292 (lv_at hl 8 rfl) ?_
        refine lv_iadd hx hb d_D_mix_294 ?_
        refine ht_iast hx hb HW h_wd (by unfold vp_in; decide) d_D_mix_295 (fun H locs HW => ?_)
        obtain ⟨u16, hu16⟩ : ∃ z, z = ht_up u14 wd (ht_ai g 8 (upd (upd (upd (upd (upd (upd (upd (upd ws 0 (z1 + a1)) 1 (z3 + a2)) 2 (z5 + a3)) 3 (z7 + a4)) 4 (z9 + a5)) 5 (z11 + a6)) 6 (z13 + a7)) 7 (z15 + a8))) := ⟨_, rfl⟩
        have HW : ht_I g s u16 H locs := by rw [hu16]; exact HW
        have h_dg : ht_at u16 dg (.inr (1, [.ref wd, .ref wa, .int n0]) : va_E) := by rw [hu16]; exact ht_at_ne h_dg hD.n1
        have h_wd : ht_at u16 wd (ht_ai g 8 (upd (upd (upd (upd (upd (upd (upd (upd ws 0 (z1 + a1)) 1 (z3 + a2)) 2 (z5 + a3)) 3 (z7 + a4)) 4 (z9 + a5)) 5 (z11 + a6)) 6 (z13 + a7)) 7 (z15 + a8))) := by rw [hu16]; exact ht_at_self h_wd
        have h_wa : ht_at u16 wa (ht_ai g 64 wf) := by rw [hu16]; exact ht_at_ne h_wa n_wa_wd
        have hk64 : k = 64 := by omega
        exact ht_vret hx hb hr hlocks HW (by
            have ha64 : (a1, a2, a3, a4, a5, a6, a7, a8) = ht_rn wf (ht_o8 ws) 64 := hk64 ▸ ha
            rw [← ha64, hu16, hu14, hu12, hu10, hu8, hu6, hu4, hu2]
            simp only [ht_up_up, ez1, ez3, ez5, ez7, ez9, ez11, ez13, ez15]
            exact ht_fin hD _) d_D_mix_296
      · exact absurd (nI_le (show 64 ≤ k by omega) (by omega)) (by rw [et] at c70; exact c70)
    | succ n ih =>
      intro k hk a1 a2 a3 a4 a5 a6 a7 a8 ha H locs ls t et HW hl
      obtain ⟨h_dg, h_wd, h_wa⟩ := id hD
      refine lv_iload hx hb d_D_mix_66 (lv_at hl 9 rfl) ?_
      refine lv_bipush (v := 64) hx hb d_D_mix_68 (by decide) ?_
      refine lv_icmp_ge (tgt := 209) hx hb d_D_mix_70 (by decide) (fun c70 => ?_) (fun c70 => ?_)
      · exact absurd (show nI 64 ≤ nI k by rw [et] at c70; exact c70) (nI_ge (by omega) (by omega))
      · refine lv_iload hx hb d_D_mix_73 (lv_at hl 5 rfl) ?_
        refine lv_bipush (v := 6) hx hb d_D_mix_75 (by decide) ?_
        refine ht_ci HW (va_runS (own := R_D) (As := [.int a5, .int 6]) (rest := []) ⟨hx, hb, hml, hown, htb⟩ (c_JI_rotateRight l g w a5 (6 : Int32)) (va_cwS 2 htb (ht_gs wd_242 wd_243 wd_5 g_JI_rotateRight) rfl rfl rfl (by decide +kernel) ⟨Nat.le_of_ble_eq_true rfl, Nat.le_of_ble_eq_true rfl⟩) (HW.preS _) rfl rfl hl.1 rfl (lv_room (Nat.le_of_ble_eq_true rfl)) d_D_mix_77 ⟨Nat.le_of_ble_eq_true rfl, Nat.le_of_ble_eq_true rfl⟩) (fun q2 u1 H locs pu1 HW => ?_)
        obtain ⟨eq2, eu1⟩ := pu1
        subst eu1
        refine lv_iload hx hb d_D_mix_80 (lv_at hl 5 rfl) ?_
        refine lv_bipush (v := 11) hx hb d_D_mix_82 (by decide) ?_
        refine ht_ci HW (va_runS (own := R_D) (As := [.int a5, .int 11]) (rest := [.int q2]) ⟨hx, hb, hml, hown, htb⟩ (c_JI_rotateRight l g w a5 (11 : Int32)) (va_cwS 2 htb (ht_gs wd_242 wd_243 wd_5 g_JI_rotateRight) rfl rfl rfl (by decide +kernel) ⟨Nat.le_of_ble_eq_true rfl, Nat.le_of_ble_eq_true rfl⟩) (HW.preS _) rfl rfl hl.1 rfl (lv_room (Nat.le_of_ble_eq_true rfl)) d_D_mix_84 ⟨Nat.le_of_ble_eq_true rfl, Nat.le_of_ble_eq_true rfl⟩) (fun q4 u3 H locs pu3 HW => ?_)
        obtain ⟨eq4, eu3⟩ := pu3
        subst eu3
        refine lv_ixor hx hb d_D_mix_87 ?_
        refine lv_iload hx hb d_D_mix_88 (lv_at hl 5 rfl) ?_
        refine lv_bipush (v := 25) hx hb d_D_mix_90 (by decide) ?_
        refine ht_ci HW (va_runS (own := R_D) (As := [.int a5, .int 25]) (rest := [.int (q2 ^^^ q4)]) ⟨hx, hb, hml, hown, htb⟩ (c_JI_rotateRight l g w a5 (25 : Int32)) (va_cwS 2 htb (ht_gs wd_242 wd_243 wd_5 g_JI_rotateRight) rfl rfl rfl (by decide +kernel) ⟨Nat.le_of_ble_eq_true rfl, Nat.le_of_ble_eq_true rfl⟩) (HW.preS _) rfl rfl hl.1 rfl (lv_room (Nat.le_of_ble_eq_true rfl)) d_D_mix_92 ⟨Nat.le_of_ble_eq_true rfl, Nat.le_of_ble_eq_true rfl⟩) (fun q6 u5 H locs pu5 HW => ?_)
        obtain ⟨eq6, eu5⟩ := pu5
        subst eu5
        refine lv_ixor hx hb d_D_mix_95 ?_
        refine lv_topi (fun z7 ez7 => ?_)
        refine lv_istore (lv' := [(10, .int z7), (0, .ref dg), (1, .int a1), (2, .int a2), (3, .int a3), (4, .int a4), (5, .int a5), (6, .int a6), (7, .int a7), (8, .int a8), (9, .int t)]) hx hb d_D_mix_96 hl (by decide) rfl (fun ls hl => ?_)
        refine lv_iload_n hx hb d_D_mix_98 rfl (lv_at hl 2 rfl) ?_
        refine lv_iconst (v := 2) hx hb d_D_mix_99 (by decide) ?_
        refine ht_ci HW (va_runS (own := R_D) (As := [.int a1, .int 2]) (rest := []) ⟨hx, hb, hml, hown, htb⟩ (c_JI_rotateRight l g w a1 (2 : Int32)) (va_cwS 2 htb (ht_gs wd_242 wd_243 wd_5 g_JI_rotateRight) rfl rfl rfl (by decide +kernel) ⟨Nat.le_of_ble_eq_true rfl, Nat.le_of_ble_eq_true rfl⟩) (HW.preS _) rfl rfl hl.1 rfl (lv_room (Nat.le_of_ble_eq_true rfl)) d_D_mix_100 ⟨Nat.le_of_ble_eq_true rfl, Nat.le_of_ble_eq_true rfl⟩) (fun q9 u8 H locs pu8 HW => ?_)
        obtain ⟨eq9, eu8⟩ := pu8
        subst eu8
        refine lv_iload_n hx hb d_D_mix_103 rfl (lv_at hl 2 rfl) ?_
        refine lv_bipush (v := 13) hx hb d_D_mix_104 (by decide) ?_
        refine ht_ci HW (va_runS (own := R_D) (As := [.int a1, .int 13]) (rest := [.int q9]) ⟨hx, hb, hml, hown, htb⟩ (c_JI_rotateRight l g w a1 (13 : Int32)) (va_cwS 2 htb (ht_gs wd_242 wd_243 wd_5 g_JI_rotateRight) rfl rfl rfl (by decide +kernel) ⟨Nat.le_of_ble_eq_true rfl, Nat.le_of_ble_eq_true rfl⟩) (HW.preS _) rfl rfl hl.1 rfl (lv_room (Nat.le_of_ble_eq_true rfl)) d_D_mix_106 ⟨Nat.le_of_ble_eq_true rfl, Nat.le_of_ble_eq_true rfl⟩) (fun q11 u10 H locs pu10 HW => ?_)
        obtain ⟨eq11, eu10⟩ := pu10
        subst eu10
        refine lv_ixor hx hb d_D_mix_109 ?_
        refine lv_iload_n hx hb d_D_mix_110 rfl (lv_at hl 2 rfl) ?_
        refine lv_bipush (v := 22) hx hb d_D_mix_111 (by decide) ?_
        refine ht_ci HW (va_runS (own := R_D) (As := [.int a1, .int 22]) (rest := [.int (q9 ^^^ q11)]) ⟨hx, hb, hml, hown, htb⟩ (c_JI_rotateRight l g w a1 (22 : Int32)) (va_cwS 2 htb (ht_gs wd_242 wd_243 wd_5 g_JI_rotateRight) rfl rfl rfl (by decide +kernel) ⟨Nat.le_of_ble_eq_true rfl, Nat.le_of_ble_eq_true rfl⟩) (HW.preS _) rfl rfl hl.1 rfl (lv_room (Nat.le_of_ble_eq_true rfl)) d_D_mix_113 ⟨Nat.le_of_ble_eq_true rfl, Nat.le_of_ble_eq_true rfl⟩) (fun q13 u12 H locs pu12 HW => ?_)
        obtain ⟨eq13, eu12⟩ := pu12
        subst eu12
        refine lv_ixor hx hb d_D_mix_116 ?_
        refine lv_topi (fun z14 ez14 => ?_)
        refine lv_istore (lv' := [(11, .int z14), (10, .int z7), (0, .ref dg), (1, .int a1), (2, .int a2), (3, .int a3), (4, .int a4), (5, .int a5), (6, .int a6), (7, .int a7), (8, .int a8), (9, .int t)]) hx hb d_D_mix_117 hl (by decide) rfl (fun ls hl => ?_)
        refine lv_iload hx hb d_D_mix_119 (lv_at hl 10 rfl) ?_
        refine lv_iload hx hb d_D_mix_121 (lv_at hl 1 rfl) ?_
        refine lv_iadd hx hb d_D_mix_123 ?_
        refine lv_iload hx hb d_D_mix_124 (lv_at hl 7 rfl) ?_
        refine lv_iload hx hb d_D_mix_126 (lv_at hl 8 rfl) ?_
        refine lv_iand hx hb d_D_mix_128 ?_
        refine lv_iload hx hb d_D_mix_129 (lv_at hl 7 rfl) ?_
        refine lv_iconst (v := -1) hx hb d_D_mix_131 (by decide) ?_
        refine lv_ixor hx hb d_D_mix_132 ?_
        refine lv_iload hx hb d_D_mix_133 (lv_at hl 9 rfl) ?_
        refine lv_iand hx hb d_D_mix_135 ?_
        refine lv_ixor hx hb d_D_mix_136 ?_
        refine lv_iadd hx hb d_D_mix_137 ?_
        refine ht_gets hx hb HW.2.2.1.2.2.1 HW hown (htb _ wd_249) (fun _ h9 => h9) d_D_mix_138 ?_
        refine lv_iload hx hb d_D_mix_141 (lv_at hl 11 rfl) ?_
        refine va_ti (v := .int (ht_kt t.toNatClampNeg)) hx hb HW.2.2.1.2.2.1.2 HW.2.2.2.2.2 (by rw [et]; exact vp_in_nI (by omega) (by omega)) rfl d_D_mix_143 ?_
        refine lv_topi (fun z15 ez15 => ?_)
        have ez15 : z15 = ht_kt k := by rw [ez15, et, nI_clamp (by omega)]
        refine lv_iadd hx hb d_D_mix_144 ?_
        refine lv_aload_n hx hb d_D_mix_145 rfl (lv_at hl 2 rfl) ?_
        refine ht_get (C := R_D) (T := F_D) (N := 3) (v := .ref wa) hx hb htb i_D hown HW h_dg rfl 1 (by decide) (htb _ wd_27) (fun _ h9 => h9) rfl d_D_mix_146 ?_
        refine lv_iload hx hb d_D_mix_149 (lv_at hl 11 rfl) ?_
        refine ht_iald hx hb HW h_wa (by rw [et]; exact vp_in_nI (by omega) (by omega)) d_D_mix_151 ?_
        refine lv_topi (fun z16 ez16 => ?_)
        have ez16 : z16 = wf k := by rw [ez16, et, nI_clamp (by omega)]
        refine lv_iadd hx hb d_D_mix_152 ?_
        refine lv_topi (fun z17 ez17 => ?_)
        refine lv_istore (lv' := [(12, .int z17), (11, .int z14), (10, .int z7), (0, .ref dg), (1, .int a1), (2, .int a2), (3, .int a3), (4, .int a4), (5, .int a5), (6, .int a6), (7, .int a7), (8, .int a8), (9, .int t)]) hx hb d_D_mix_153 hl (by decide) rfl (fun ls hl => ?_)
        refine lv_iload hx hb d_D_mix_155 (lv_at hl 1 rfl) ?_
        refine lv_iload_n hx hb d_D_mix_157 rfl (lv_at hl 4 rfl) ?_
        refine lv_iload_n hx hb d_D_mix_158 rfl (lv_at hl 5 rfl) ?_
        refine lv_iand hx hb d_D_mix_159 ?_
        refine lv_iload_n hx hb d_D_mix_160 rfl (lv_at hl 4 rfl) ?_
        refine lv_iload_n hx hb d_D_mix_161 rfl (lv_at hl 6 rfl) ?_
        refine lv_iand hx hb d_D_mix_162 ?_
        refine lv_ixor hx hb d_D_mix_163 ?_
        refine lv_iload_n hx hb d_D_mix_164 rfl (lv_at hl 5 rfl) ?_
        refine lv_iload_n hx hb d_D_mix_165 rfl (lv_at hl 6 rfl) ?_
        refine lv_iand hx hb d_D_mix_166 ?_
        refine lv_ixor hx hb d_D_mix_167 ?_
        refine lv_iadd hx hb d_D_mix_168 ?_
        refine lv_topi (fun z18 ez18 => ?_)
        refine lv_istore (lv' := [(13, .int z18), (12, .int z17), (11, .int z14), (10, .int z7), (0, .ref dg), (1, .int a1), (2, .int a2), (3, .int a3), (4, .int a4), (5, .int a5), (6, .int a6), (7, .int a7), (8, .int a8), (9, .int t)]) hx hb d_D_mix_169 hl (by decide) rfl (fun ls hl => ?_)
        refine lv_iload hx hb d_D_mix_171 (lv_at hl 11 rfl) ?_
        refine lv_istore (lv' := [(8, .int a7), (13, .int z18), (12, .int z17), (11, .int z14), (10, .int z7), (0, .ref dg), (1, .int a1), (2, .int a2), (3, .int a3), (4, .int a4), (5, .int a5), (6, .int a6), (7, .int a7), (9, .int t)]) hx hb d_D_mix_173 hl (by decide) rfl (fun ls hl => ?_)
        refine lv_iload hx hb d_D_mix_175 (lv_at hl 11 rfl) ?_
        refine lv_istore (lv' := [(7, .int a6), (8, .int a7), (13, .int z18), (12, .int z17), (11, .int z14), (10, .int z7), (0, .ref dg), (1, .int a1), (2, .int a2), (3, .int a3), (4, .int a4), (5, .int a5), (6, .int a6), (9, .int t)]) hx hb d_D_mix_177 hl (by decide) rfl (fun ls hl => ?_)
        refine lv_iload hx hb d_D_mix_179 (lv_at hl 11 rfl) ?_
        refine lv_istore (lv' := [(6, .int a5), (7, .int a6), (8, .int a7), (13, .int z18), (12, .int z17), (11, .int z14), (10, .int z7), (0, .ref dg), (1, .int a1), (2, .int a2), (3, .int a3), (4, .int a4), (5, .int a5), (9, .int t)]) hx hb d_D_mix_181 hl (by decide) rfl (fun ls hl => ?_)
        refine lv_iload hx hb d_D_mix_183 (lv_at hl 11 rfl) ?_
        refine lv_iload hx hb d_D_mix_185 (lv_at hl 4 rfl) ?_
        refine lv_iadd hx hb d_D_mix_187 ?_
        refine lv_topi (fun z19 ez19 => ?_)
        refine lv_istore (lv' := [(5, .int z19), (6, .int a5), (7, .int a6), (8, .int a7), (13, .int z18), (12, .int z17), (11, .int z14), (10, .int z7), (0, .ref dg), (1, .int a1), (2, .int a2), (3, .int a3), (4, .int a4), (9, .int t)]) hx hb d_D_mix_188 hl (by decide) rfl (fun ls hl => ?_)
        refine lv_iload_n hx hb d_D_mix_190 rfl (lv_at hl 11 rfl) ?_
        refine lv_istore (lv' := [(4, .int a3), (5, .int z19), (6, .int a5), (7, .int a6), (8, .int a7), (13, .int z18), (12, .int z17), (11, .int z14), (10, .int z7), (0, .ref dg), (1, .int a1), (2, .int a2), (3, .int a3), (9, .int t)]) hx hb d_D_mix_191 hl (by decide) rfl (fun ls hl => ?_)
        refine lv_iload_n hx hb d_D_mix_193 rfl (lv_at hl 11 rfl) ?_
        refine lv_istore_n (lv' := [(3, .int a2), (4, .int a3), (5, .int z19), (6, .int a5), (7, .int a6), (8, .int a7), (13, .int z18), (12, .int z17), (11, .int z14), (10, .int z7), (0, .ref dg), (1, .int a1), (2, .int a2), (9, .int t)]) hx hb d_D_mix_194 rfl hl (by decide) rfl (fun ls hl => ?_)
        refine lv_iload_n hx hb d_D_mix_195 rfl (lv_at hl 11 rfl) ?_
        refine lv_istore_n (lv' := [(2, .int a1), (3, .int a2), (4, .int a3), (5, .int z19), (6, .int a5), (7, .int a6), (8, .int a7), (13, .int z18), (12, .int z17), (11, .int z14), (10, .int z7), (0, .ref dg), (1, .int a1), (9, .int t)]) hx hb d_D_mix_196 rfl hl (by decide) rfl (fun ls hl => ?_)
        refine lv_iload hx hb d_D_mix_197 (lv_at hl 8 rfl) ?_
        refine lv_iload hx hb d_D_mix_199 (lv_at hl 7 rfl) ?_
        refine lv_iadd hx hb d_D_mix_201 ?_
        refine lv_topi (fun z20 ez20 => ?_)
        refine lv_istore_n (lv' := [(1, .int z20), (2, .int a1), (3, .int a2), (4, .int a3), (5, .int z19), (6, .int a5), (7, .int a6), (8, .int a7), (13, .int z18), (12, .int z17), (11, .int z14), (10, .int z7), (0, .ref dg), (9, .int t)]) hx hb d_D_mix_202 rfl hl (by decide) rfl (fun ls hl => ?_)
        obtain ⟨t2, et2⟩ : ∃ y : Int32, y = t + 1 := ⟨_, rfl⟩
        refine lv_iinc (v := t2) (lv' := [(9, .int t2), (1, .int z20), (2, .int a1), (3, .int a2), (4, .int a3), (5, .int z19), (6, .int a5), (7, .int a6), (8, .int a7), (13, .int z18), (12, .int z17), (11, .int z14), (10, .int z7), (0, .ref dg)]) hx hb d_D_mix_203 hl (k := 13) rfl (by rw [et2]; rfl) (by decide) rfl (fun ls hl => ?_)
        refine lv_goto (tgt := 66) hx hb d_D_mix_206 (by decide) ?_
        refine ih (k + 1) (by omega) z20 a1 a2 a3 z19 a5 a6 a7 ?_ _ _ _ t2 (by rw [et2, et, nI_1]) HW (lv_sub hl [13, 1, 2, 3, 4, 5, 6, 7, 8, 0] rfl)
        show _ = ht_r1 (ht_k64.getD k 0) (wf k) (ht_rn wf (ht_o8 ws) k)
        rw [← ha]
        simp only [eq2, eq4, eq6, ez7, eq9, eq11, eq13, ez14, ez15, ez16, ez17, ez18, ez19, ez20]
        rfl
  obtain ⟨h_dg, h_wd, h_wa⟩ := id hD
  refine lv_aload_n hx hb d_D_mix_0 rfl (lv_at hl 0 rfl) ?_
  refine ht_get (C := R_D) (T := F_D) (N := 3) (v := .ref wd) hx hb htb i_D hown HW h_dg rfl 0 (by decide) (htb _ wd_26) (fun _ h9 => h9) rfl d_D_mix_1 ?_
  refine lv_iconst (v := 0) hx hb d_D_mix_4 (by decide) ?_
  refine ht_iald hx hb HW h_wd (by unfold vp_in; decide) d_D_mix_5 ?_
  refine lv_topi (fun z1 ez1 => ?_)
  have ez1 : z1 = ws 0 := ez1
  refine lv_istore_n (lv' := [(1, .int z1), (0, .ref dg)]) hx hb d_D_mix_6 rfl hl (by decide) rfl (fun ls hl => ?_)
  refine lv_aload_n hx hb d_D_mix_7 rfl (lv_at hl 1 rfl) ?_
  refine ht_get (C := R_D) (T := F_D) (N := 3) (v := .ref wd) hx hb htb i_D hown HW h_dg rfl 0 (by decide) (htb _ wd_26) (fun _ h9 => h9) rfl d_D_mix_8 ?_
  refine lv_iconst (v := 1) hx hb d_D_mix_11 (by decide) ?_
  refine ht_iald hx hb HW h_wd (by unfold vp_in; decide) d_D_mix_12 ?_
  refine lv_topi (fun z2 ez2 => ?_)
  have ez2 : z2 = ws 1 := ez2
  refine lv_istore_n (lv' := [(2, .int z2), (1, .int z1), (0, .ref dg)]) hx hb d_D_mix_13 rfl hl (by decide) rfl (fun ls hl => ?_)
  refine lv_aload_n hx hb d_D_mix_14 rfl (lv_at hl 2 rfl) ?_
  refine ht_get (C := R_D) (T := F_D) (N := 3) (v := .ref wd) hx hb htb i_D hown HW h_dg rfl 0 (by decide) (htb _ wd_26) (fun _ h9 => h9) rfl d_D_mix_15 ?_
  refine lv_iconst (v := 2) hx hb d_D_mix_18 (by decide) ?_
  refine ht_iald hx hb HW h_wd (by unfold vp_in; decide) d_D_mix_19 ?_
  refine lv_topi (fun z3 ez3 => ?_)
  have ez3 : z3 = ws 2 := ez3
  refine lv_istore_n (lv' := [(3, .int z3), (2, .int z2), (1, .int z1), (0, .ref dg)]) hx hb d_D_mix_20 rfl hl (by decide) rfl (fun ls hl => ?_)
  refine lv_aload_n hx hb d_D_mix_21 rfl (lv_at hl 3 rfl) ?_
  refine ht_get (C := R_D) (T := F_D) (N := 3) (v := .ref wd) hx hb htb i_D hown HW h_dg rfl 0 (by decide) (htb _ wd_26) (fun _ h9 => h9) rfl d_D_mix_22 ?_
  refine lv_iconst (v := 3) hx hb d_D_mix_25 (by decide) ?_
  refine ht_iald hx hb HW h_wd (by unfold vp_in; decide) d_D_mix_26 ?_
  refine lv_topi (fun z4 ez4 => ?_)
  have ez4 : z4 = ws 3 := ez4
  refine lv_istore (lv' := [(4, .int z4), (3, .int z3), (2, .int z2), (1, .int z1), (0, .ref dg)]) hx hb d_D_mix_27 hl (by decide) rfl (fun ls hl => ?_)
  refine lv_aload_n hx hb d_D_mix_29 rfl (lv_at hl 4 rfl) ?_
  refine ht_get (C := R_D) (T := F_D) (N := 3) (v := .ref wd) hx hb htb i_D hown HW h_dg rfl 0 (by decide) (htb _ wd_26) (fun _ h9 => h9) rfl d_D_mix_30 ?_
  refine lv_iconst (v := 4) hx hb d_D_mix_33 (by decide) ?_
  refine ht_iald hx hb HW h_wd (by unfold vp_in; decide) d_D_mix_34 ?_
  refine lv_topi (fun z5 ez5 => ?_)
  have ez5 : z5 = ws 4 := ez5
  refine lv_istore (lv' := [(5, .int z5), (4, .int z4), (3, .int z3), (2, .int z2), (1, .int z1), (0, .ref dg)]) hx hb d_D_mix_35 hl (by decide) rfl (fun ls hl => ?_)
  refine lv_aload_n hx hb d_D_mix_37 rfl (lv_at hl 5 rfl) ?_
  refine ht_get (C := R_D) (T := F_D) (N := 3) (v := .ref wd) hx hb htb i_D hown HW h_dg rfl 0 (by decide) (htb _ wd_26) (fun _ h9 => h9) rfl d_D_mix_38 ?_
  refine lv_iconst (v := 5) hx hb d_D_mix_41 (by decide) ?_
  refine ht_iald hx hb HW h_wd (by unfold vp_in; decide) d_D_mix_42 ?_
  refine lv_topi (fun z6 ez6 => ?_)
  have ez6 : z6 = ws 5 := ez6
  refine lv_istore (lv' := [(6, .int z6), (5, .int z5), (4, .int z4), (3, .int z3), (2, .int z2), (1, .int z1), (0, .ref dg)]) hx hb d_D_mix_43 hl (by decide) rfl (fun ls hl => ?_)
  refine lv_aload_n hx hb d_D_mix_45 rfl (lv_at hl 6 rfl) ?_
  refine ht_get (C := R_D) (T := F_D) (N := 3) (v := .ref wd) hx hb htb i_D hown HW h_dg rfl 0 (by decide) (htb _ wd_26) (fun _ h9 => h9) rfl d_D_mix_46 ?_
  refine lv_bipush (v := 6) hx hb d_D_mix_49 (by decide) ?_
  refine ht_iald hx hb HW h_wd (by unfold vp_in; decide) d_D_mix_51 ?_
  refine lv_topi (fun z7 ez7 => ?_)
  have ez7 : z7 = ws 6 := ez7
  refine lv_istore (lv' := [(7, .int z7), (6, .int z6), (5, .int z5), (4, .int z4), (3, .int z3), (2, .int z2), (1, .int z1), (0, .ref dg)]) hx hb d_D_mix_52 hl (by decide) rfl (fun ls hl => ?_)
  refine lv_aload_n hx hb d_D_mix_54 rfl (lv_at hl 7 rfl) ?_
  refine ht_get (C := R_D) (T := F_D) (N := 3) (v := .ref wd) hx hb htb i_D hown HW h_dg rfl 0 (by decide) (htb _ wd_26) (fun _ h9 => h9) rfl d_D_mix_55 ?_
  refine lv_bipush (v := 7) hx hb d_D_mix_58 (by decide) ?_
  refine ht_iald hx hb HW h_wd (by unfold vp_in; decide) d_D_mix_60 ?_
  refine lv_topi (fun z8 ez8 => ?_)
  have ez8 : z8 = ws 7 := ez8
  refine lv_istore (lv' := [(8, .int z8), (7, .int z7), (6, .int z6), (5, .int z5), (4, .int z4), (3, .int z3), (2, .int z2), (1, .int z1), (0, .ref dg)]) hx hb d_D_mix_61 hl (by decide) rfl (fun ls hl => ?_)
  refine lv_iconst (v := 0) hx hb d_D_mix_63 (by decide) ?_
  refine lv_istore (lv' := [(9, .int 0), (8, .int z8), (7, .int z7), (6, .int z6), (5, .int z5), (4, .int z4), (3, .int z3), (2, .int z2), (1, .int z1), (0, .ref dg)]) hx hb d_D_mix_64 hl (by decide) rfl (fun ls hl => ?_)
  exact loop 64 0 rfl z1 z2 z3 z4 z5 z6 z7 z8 (by simp only [ez1, ez2, ez3, ez4, ez5, ez6, ez7, ez8]; rfl) _ _ _ 0 rfl HW (lv_sub hl [9, 8, 7, 6, 5, 4, 3, 2, 1, 0] rfl)
end
section
theorem ht_pl_ex (n : Int32) : ∃ j : Nat, j < 16 ∧ ht_pl n = nI j := by
  obtain ⟨j, hj, e⟩ := pk_andE n (m := 63) 6 (by decide)
  refine ⟨j / 2 ^ 2, by omega, ?_⟩
  unfold ht_pl
  rw [e]
  exact pk_shrN (by omega) _ 2 (by decide)
theorem ht_pl_in (n : Int32) : vp_in (ht_pl n) 64 := by
  obtain ⟨j, hj, e⟩ := ht_pl_ex n
  rw [e]
  exact vp_in_nI (by omega) (by omega)
set_option maxHeartbeats 4000000 in
set_option maxRecDepth 100000 in
theorem c_D_take (l : Launch) (g : ht_G) (w : ht_W) {dg wd wa : Nat} {ws wf : Nat → Int32} {n0 : Int32} (hD : ht_Dg g w dg wd wa (ws, wf, n0)) (v : Int32) : Met l y_D_take ws_D_take ({ frames := 2, cells := 0, slots := 0, locals := 60 } : Room) (va_Pc [.ref dg, .int v] (ht_WS g w)) (ht_Qv g (fun u => u = ht_dw g w dg wd wa (ht_tk (ws, wf, n0) v))) 0 0 (ht_A g) := by
  refine Met.ofW (cc := b_D_take) (maxL := 3) (ret := none) (by decide) rfl ?_
  intro p e s m args below meth c s₁ BB hml hv
  obtain ⟨rfl, HW⟩ := hv
  have HW := ht_I.start HW
  have hx := BB.exec
  have hb := BB.bytes
  have hr := BB.returns
  have hts := atoms_spec (ws := ws_D_take) BB.pre
  have htb : ∀ w ∈ bg, w.before _ s = true := fun w h => hts w (List.mem_cons_of_mem _ h)
  have hown : s.vm.findClass R_D = some m.cls := findClass_of_methodNamed BB.named
  have hlocks := BB.notSynchronized
  have hl := lv_entry ([.ref dg, .int v]) (n := 3) (Nat.le_of_ble_eq_true rfl)
  rw [lg_entry_eq]
  generalize (lg_sl ([.ref dg, .int v]) ++ List.replicate (3 - (lg_sl ([.ref dg, .int v])).length) Slot.unset).toArray = ls at hl ⊢
  have hl : lv_has ls 3 [(0, .ref dg), (1, .int v)] := hl
  obtain ⟨h_dg, h_wd, h_wa⟩ := id hD
  refine lv_aload_n hx hb d_D_take_0 rfl (lv_at hl 0 rfl) ?_
  refine ht_get (C := R_D) (T := F_D) (N := 3) (v := .int n0) hx hb htb i_D hown HW h_dg rfl 2 (by decide) (htb _ wd_28) (fun _ h9 => h9) rfl d_D_take_1 ?_
  refine lv_bipush (v := 63) hx hb d_D_take_4 (by decide) ?_
  refine lv_iand hx hb d_D_take_6 ?_
  refine lv_iconst (v := 2) hx hb d_D_take_7 (by decide) ?_
  refine lv_ishr hx hb d_D_take_8 ?_
  refine lv_topi (fun x1 ex1 => ?_)
  refine lv_istore_n (lv' := [(2, .int x1), (0, .ref dg), (1, .int v)]) hx hb d_D_take_9 rfl hl (by decide) rfl (fun ls hl => ?_)
  refine lv_aload_n hx hb d_D_take_10 rfl (lv_at hl 1 rfl) ?_
  refine ht_get (C := R_D) (T := F_D) (N := 3) (v := .ref wa) hx hb htb i_D hown HW h_dg rfl 1 (by decide) (htb _ wd_27) (fun _ h9 => h9) rfl d_D_take_11 ?_
  refine lv_iload_n hx hb d_D_take_14 rfl (lv_at hl 0 rfl) ?_
  refine lv_aload_n hx hb d_D_take_15 rfl (lv_at hl 1 rfl) ?_
  refine ht_get (C := R_D) (T := F_D) (N := 3) (v := .ref wa) hx hb htb i_D hown HW h_dg rfl 1 (by decide) (htb _ wd_27) (fun _ h9 => h9) rfl d_D_take_16 ?_
  refine lv_iload_n hx hb d_D_take_19 rfl (lv_at hl 0 rfl) ?_
  refine ht_iald hx hb HW h_wa (by rw [ex1]; exact ht_pl_in n0) d_D_take_20 ?_
  refine lv_bipush (v := 8) hx hb d_D_take_21 (by decide) ?_
  refine lv_ishl hx hb d_D_take_23 ?_
  refine lv_iload_n hx hb d_D_take_24 rfl (lv_at hl 2 rfl) ?_
  refine lv_sipush (v := 255) hx hb d_D_take_25 (by decide) ?_
  refine lv_iand hx hb d_D_take_28 ?_
  refine lv_ior hx hb d_D_take_29 ?_
  refine ht_iast hx hb HW h_wa (by rw [ex1]; exact ht_pl_in n0) d_D_take_30 (fun H locs HW => ?_)
  obtain ⟨u1, hu1⟩ : ∃ z, z = ht_up w wa (ht_ai g 64 (upd wf x1.toNatClampNeg (((wf x1.toNatClampNeg) <<< ((8 : Int32) &&& 31)) ||| (v &&& (255 : Int32))))) := ⟨_, rfl⟩
  have HW : ht_I g s u1 H locs := by rw [hu1]; exact HW
  have h_dg : ht_at u1 dg (.inr (1, [.ref wd, .ref wa, .int n0]) : va_E) := by rw [hu1]; exact ht_at_ne h_dg hD.n2
  have h_wd : ht_at u1 wd (ht_ai g 8 ws) := by rw [hu1]; exact ht_at_ne h_wd hD.n3
  have h_wa : ht_at u1 wa (ht_ai g 64 (upd wf x1.toNatClampNeg (((wf x1.toNatClampNeg) <<< ((8 : Int32) &&& 31)) ||| (v &&& (255 : Int32))))) := by rw [hu1]; exact ht_at_self h_wa
  refine lv_aload_n hx hb d_D_take_31 rfl (lv_at hl 1 rfl) ?_
  refine lv_dup hx hb d_D_take_32 rfl ?_
  refine ht_get (C := R_D) (T := F_D) (N := 3) (v := .int n0) hx hb htb i_D hown HW h_dg rfl 2 (by decide) (htb _ wd_28) (fun _ h9 => h9) rfl d_D_take_33 ?_
  refine lv_iconst (v := 1) hx hb d_D_take_36 (by decide) ?_
  refine lv_iadd hx hb d_D_take_37 ?_
  refine lv_topi (fun n1 en1 => ?_)
  refine ht_put (C := R_D) (T := F_D) (N := 3) (v := .int n1) (ty := .int) hx hb htb i_D t_D t_D_ok n_D hown HW h_dg rfl 2 (by decide) (htb _ wd_28) (fun _ h9 => h9) rfl (by decide +kernel) rfl rfl (Nat.le_of_ble_eq_true rfl) d_D_take_38 (fun H locs HW => ?_)
  have n_wd_dg : wd ≠ dg := (Ne.symm hD.n1)
  have n_wa_dg : wa ≠ dg := (Ne.symm hD.n2)
  obtain ⟨u2, hu2⟩ : ∃ z, z = ht_up u1 dg (.inr (1, [.ref wd, .ref wa, .int n1]) : va_E) := ⟨_, rfl⟩
  have HW : ht_I g s u2 H locs := by rw [hu2]; exact HW
  have h_dg : ht_at u2 dg (.inr (1, [.ref wd, .ref wa, .int n1]) : va_E) := by rw [hu2]; exact ht_at_self h_dg
  have h_wd : ht_at u2 wd (ht_ai g 8 ws) := by rw [hu2]; exact ht_at_ne h_wd n_wd_dg
  have h_wa : ht_at u2 wa (ht_ai g 64 (upd wf x1.toNatClampNeg (((wf x1.toNatClampNeg) <<< ((8 : Int32) &&& 31)) ||| (v &&& (255 : Int32))))) := by rw [hu2]; exact ht_at_ne h_wa n_wa_dg
  refine lv_aload_n hx hb d_D_take_41 rfl (lv_at hl 1 rfl) ?_
  refine ht_get (C := R_D) (T := F_D) (N := 3) (v := .int n1) hx hb htb i_D hown HW h_dg rfl 2 (by decide) (htb _ wd_28) (fun _ h9 => h9) rfl d_D_take_42 ?_
  refine lv_bipush (v := 63) hx hb d_D_take_45 (by decide) ?_
  refine lv_iand hx hb d_D_take_47 ?_
  have hq : u2 = ht_dw g w dg wd wa (ws, ht_tw (ws, wf, n0) v, n0 + 1) := by
    rw [hu2, hu1, en1, ex1]
    unfold ht_dw
    rw [ht_up_comm hD.n2.symm, ht_up_id (ht_at_ne hD.2.1 hD.n1.symm)]
    rfl
  have hD2 : ht_Dg g u2 dg wd wa (ws, ht_tw (ws, wf, n0) v, n0 + 1) := by rw [hq]; exact hD.up
  refine lv_if_ne (tgt := 59) hx hb d_D_take_48 (by decide) (fun c48 => ?_) (fun c48 => ?_)
  · exact ht_vret hx hb hr hlocks HW (by rw [hq]; unfold ht_tk; rw [if_neg (by rw [← en1]; exact c48)]) d_D_take_59
  · refine lv_aload_n hx hb d_D_take_51 rfl (lv_at hl 1 rfl) ?_
    refine ht_cv HW (va_runV (own := R_D) (C := R_D) (As := []) (rest := []) ⟨hx, hb, hml, hown, htb⟩ (c_D_spread l g u2 hD2) (cwV 0 htb (ht_gv wd_238 wd_240 sl_7 wd_2 g_D_spread) rfl rfl rfl (by decide +kernel) ⟨Nat.le_of_ble_eq_true rfl, Nat.le_of_ble_eq_true rfl⟩) (HW.preV h_dg rfl _) rfl rfl hl.1 rfl (lv_room (Nat.le_of_ble_eq_true rfl)) d_D_take_52 ⟨Nat.le_of_ble_eq_true rfl, Nat.le_of_ble_eq_true rfl⟩) (fun u3 H locs pw3 HW => ?_)
    have hD3 : ht_Dg g u3 dg wd wa (ws, ht_sp 48 (ht_tw (ws, wf, n0) v), n0 + 1) := by rw [pw3]; exact hD2.up
    obtain ⟨h_dg, h_wd, h_wa⟩ := id hD3
    refine lv_aload_n hx hb d_D_take_55 rfl (lv_at hl 1 rfl) ?_
    refine ht_cv HW (va_runV (own := R_D) (C := R_D) (As := []) (rest := []) ⟨hx, hb, hml, hown, htb⟩ (c_D_mix l g u3 hD3) (cwV 0 htb (ht_gv wd_245 wd_247 sl_8 wd_2 g_D_mix) rfl rfl rfl (by decide +kernel) ⟨Nat.le_of_ble_eq_true rfl, Nat.le_of_ble_eq_true rfl⟩) (HW.preV h_dg rfl _) rfl rfl hl.1 rfl (lv_room (Nat.le_of_ble_eq_true rfl)) d_D_take_56 ⟨Nat.le_of_ble_eq_true rfl, Nat.le_of_ble_eq_true rfl⟩) (fun u4 H locs pw4 HW => ?_)
    exact ht_vret hx hb hr hlocks HW (by rw [pw4, pw3, hq, (ht_Dg.up (t' := _) hD).dw, hD.dw]; unfold ht_tk; rw [if_pos (by rw [← en1]; exact c48)]; rfl) d_D_take_59
end
section
/-- byte j of a number, as the machine hands it on -/
def ht_by (x : Int64) (j : Nat) : Int32 := ((x.toUInt64 >>> (((8 : Int32) * nI j).toInt64.toUInt64 &&& Int64.toUInt64 63)).toInt64).toInt32
def ht_tl (t : ht_D) (x : Int64) : Nat → ht_D
  | 0 => t
  | n + 1 => ht_tl (ht_tk t (ht_by x n)) x n
theorem ht_c1 (x : Int32) : x + (-1) + 1 = x := by
  rw [Int32.add_assoc, show ((-1 : Int32) + 1) = 0 by decide, Int32.add_zero]
theorem ht_c2 (x : Int32) : x - 1 + 1 = x := by
  rw [Int32.sub_eq_add_neg]
  exact ht_c1 x
theorem ht_c3 {j y : Int32} (h : j + 1 = y) : j = y + (-1) := by
  rw [← h, Int32.add_assoc, show ((1 : Int32) + -1) = 0 by decide, Int32.add_zero]
theorem ht_j0 {j : Int32} (h : j + 1 = nI 0) : j < 0 := by
  rw [ht_c3 h]
  decide
theorem ht_js {j : Int32} {n : Nat} (h : j + 1 = nI (n + 1)) : j = nI n := by
  rw [ht_c3 h]
  exact pk_m1 n
set_option maxHeartbeats 4000000 in
set_option maxRecDepth 100000 in
theorem c_D_takeLowest (l : Launch) (g : ht_G) (w : ht_W) {dg wd wa : Nat} {t0 : ht_D} (hD : ht_Dg g w dg wd wa t0) (x : Int64) (k0 : Nat) (hk0 : k0 ≤ 8) (k1 : Int32) (ek1 : k1 = nI k0) : Met l y_D_takeLowest ws_D_takeLowest ({ frames := 3, cells := 0, slots := 0, locals := 90 } : Room) (va_Pc [.ref dg, .long x, .int k1] (ht_WS g w)) (ht_Qv g (fun u => u = ht_dw g w dg wd wa (ht_tl t0 x k0))) 0 0 (ht_A g) := by
  refine Met.ofW (cc := b_D_takeLowest) (maxL := 5) (ret := none) (by decide) rfl ?_
  intro p e s m args below meth c s₁ BB hml hv
  obtain ⟨rfl, HW⟩ := hv
  have HW := ht_I.start HW
  have hx := BB.exec
  have hb := BB.bytes
  have hr := BB.returns
  have hts := atoms_spec (ws := ws_D_takeLowest) BB.pre
  have htb : ∀ w ∈ bg, w.before _ s = true := fun w h => hts w (List.mem_cons_of_mem _ h)
  have hown : s.vm.findClass R_D = some m.cls := findClass_of_methodNamed BB.named
  have hlocks := BB.notSynchronized
  have hl := lv_entry ([.ref dg, .long x, .int k1]) (n := 5) (Nat.le_of_ble_eq_true rfl)
  rw [lg_entry_eq]
  generalize (lg_sl ([.ref dg, .long x, .int k1]) ++ List.replicate (5 - (lg_sl ([.ref dg, .long x, .int k1])).length) Slot.unset).toArray = ls at hl ⊢
  have hl : lv_has ls 5 [(0, .ref dg), (1, .long x), (3, .int k1)] := hl
  have loop : ∀ (n : Nat), n ≤ 8 → ∀ (t1 : ht_D), ht_tl t1 x n = ht_tl t0 x k0 → ∀ (H : Heap) (locs : List Loc) (ls : Array Slot) (j : Int32), j + 1 = nI n → ht_I g s (ht_dw g w dg wd wa t1) H locs → lv_has ls 5 [(0, .ref dg), (1, .long x), (4, .int j)] → W p l e (headSpec ws_D_takeLowest ({ frames := 3, cells := 0, slots := 0, locals := 90 } : Room)).room s m ([.ref dg, .long x, .int k1] : List Value).toArray below meth c H locs 0 0 (MQ below (ht_Qv g (fun u => u = ht_dw g w dg wd wa (ht_tl t0 x k0))) ([.ref dg, .long x, .int k1] : List Value).toArray s 0 0 (ht_A g)) (F0 m 5 ls []) := by
    intro n
    induction n with
    | zero =>
      intro hn t1 ht H locs ls j ej HW hl
      obtain ⟨w1, hw1⟩ : ∃ z, z = ht_dw g w dg wd wa t1 := ⟨_, rfl⟩
      rw [← hw1] at HW
      have hD1 : ht_Dg g w1 dg wd wa t1 := by rw [hw1]; exact hD.up
      obtain ⟨h_dg, h_wd, h_wa⟩ := id hD1
      refine lv_iload hx hb d_D_takeLowest_5 (lv_at hl 2 rfl) ?_
      refine lv_if_lt (tgt := 28) hx hb d_D_takeLowest_7 (by decide) (fun c7 => ?_) (fun c7 => ?_)
      · exact ht_vret hx hb hr hlocks HW (hw1.trans (by rw [← ht]; rfl)) d_D_takeLowest_28
      · exact absurd (ht_j0 ej) c7
    | succ n ih =>
      intro hn t1 ht H locs ls j ej HW hl
      obtain ⟨w1, hw1⟩ : ∃ z, z = ht_dw g w dg wd wa t1 := ⟨_, rfl⟩
      rw [← hw1] at HW
      have hD1 : ht_Dg g w1 dg wd wa t1 := by rw [hw1]; exact hD.up
      obtain ⟨h_dg, h_wd, h_wa⟩ := id hD1
      have ej1 : j = nI n := ht_js ej
      refine lv_iload hx hb d_D_takeLowest_5 (lv_at hl 2 rfl) ?_
      refine lv_if_lt (tgt := 28) hx hb d_D_takeLowest_7 (by decide) (fun c7 => ?_) (fun c7 => ?_)
      · exact absurd c7 (by rw [ej1]; exact nI_pos (by omega))
      · refine lv_aload_n hx hb d_D_takeLowest_10 rfl (lv_at hl 0 rfl) ?_
        refine lv_lload_n hx hb d_D_takeLowest_11 rfl (lv_at hl 1 rfl) ?_
        refine lv_bipush (v := 8) hx hb d_D_takeLowest_12 (by decide) ?_
        refine lv_iload hx hb d_D_takeLowest_14 (lv_at hl 2 rfl) ?_
        refine lv_imul hx hb d_D_takeLowest_16 ?_
        refine lv_lushr (v := (x.toUInt64 >>> (((8 : Int32) * j).toInt64.toUInt64 &&& Int64.toUInt64 63)).toInt64) hx hb d_D_takeLowest_17 rfl ?_
        refine lv_l2i (v := ((x.toUInt64 >>> (((8 : Int32) * j).toInt64.toUInt64 &&& Int64.toUInt64 63)).toInt64).toInt32) hx hb d_D_takeLowest_18 rfl ?_
        refine lv_topi (fun b1 eb1 => ?_)
        have eb1 : b1 = ht_by x n := by rw [eb1, ej1]; rfl
        refine ht_cv HW (va_runV (own := R_D) (C := R_D) (As := [.int b1]) (rest := []) ⟨hx, hb, hml, hown, htb⟩ (c_D_take l g w1 (ws := t1.1) (wf := t1.2.1) (n0 := t1.2.2) hD1 b1) (cwV 1 htb (ht_gv wd_234 wd_235 wd_236 wd_2 g_D_take) rfl rfl rfl (by decide +kernel) ⟨Nat.le_of_ble_eq_true rfl, Nat.le_of_ble_eq_true rfl⟩) (HW.preV h_dg rfl _) rfl rfl hl.1 rfl (lv_room (Nat.le_of_ble_eq_true rfl)) d_D_takeLowest_19 ⟨Nat.le_of_ble_eq_true rfl, Nat.le_of_ble_eq_true rfl⟩) (fun u1 H locs pw HW => ?_)
        obtain ⟨j2, ej2⟩ : ∃ y : Int32, y = j + (-1) := ⟨_, rfl⟩
        refine lv_iinc (v := j2) (lv' := [(4, .int j2), (0, .ref dg), (1, .long x)]) hx hb d_D_takeLowest_22 hl (k := 2) rfl (by rw [ej2]; rfl) (by decide) rfl (fun ls hl => ?_)
        refine lv_goto (tgt := 5) hx hb d_D_takeLowest_25 (by decide) ?_
        refine ih (by omega) (ht_tk t1 (ht_by x n)) ht _ _ _ j2 (by rw [ej2, ej1]; exact ht_c1 _) (HW.to ?_) (lv_sub hl [1, 2, 0] rfl)
        rw [pw, hw1, hD.dw, eb1]
  refine lv_iload_n hx hb d_D_takeLowest_0 rfl (lv_at hl 2 rfl) ?_
  refine lv_iconst (v := 1) hx hb d_D_takeLowest_1 (by decide) ?_
  refine lv_isub hx hb d_D_takeLowest_2 ?_
  refine lv_topi (fun j0 ej0 => ?_)
  refine lv_istore (lv' := [(4, .int j0), (0, .ref dg), (1, .long x), (3, .int k1)]) hx hb d_D_takeLowest_3 hl (by decide) rfl (fun ls hl => ?_)
  exact loop k0 hk0 t0 rfl _ _ _ j0 (by rw [ej0, ek1]; exact ht_c2 _) (HW.to hD.self.symm) (lv_sub hl [1, 2, 0] rfl)
end
section
def ht_tz (t : ht_D) : Nat → ht_D
  | 0 => t
  | n + 1 => ht_tz (ht_tk t 0) n
/-- the end: 128, zeros, the length in bits -/
def ht_fi (t : ht_D) : ht_D := ht_tl (ht_tz (ht_tk t 128) (((56 : Int32) - (ht_tk t 128).2.2) &&& 63).toNatClampNeg) ((8 : Int64) * t.2.2.toInt64) 8
theorem ht_c8 {j y : Int32} (h : j + 8 = y) : j = y + (-8) := by
  rw [← h, Int32.add_assoc, show ((8 : Int32) + -8) = 0 by decide, Int32.add_zero]
theorem ht_c9 (x : Int32) : x + (-8) + 8 = x := by
  rw [Int32.add_assoc, show ((-8 : Int32) + 8) = 0 by decide, Int32.add_zero]
theorem ht_j8 {j : Int32} {n : Nat} (h : j + 8 = nI (8 * (n + 1))) : j = nI (8 * n) := by
  rw [ht_c8 h, show 8 * (n + 1) = 8 * n + 8 by omega, ← nI_add, Int32.add_assoc, show (nI 8 + (-8) : Int32) = 0 by decide, Int32.add_zero]
theorem ht_j80 {j : Int32} (h : j + 8 = nI (8 * 0)) : j < 0 := by
  rw [ht_c8 h]
  decide
set_option maxHeartbeats 4000000 in
set_option maxRecDepth 100000 in
theorem c_D_finish (l : Launch) (g : ht_G) (w : ht_W) {dg wd wa : Nat} {t0 : ht_D} (hD : ht_Dg g w dg wd wa t0) : Met l y_D_finish ws_D_finish ({ frames := 3, cells := 0, slots := 0, locals := 90 } : Room) (va_Pc [.ref dg] (ht_WS g w)) (ht_Qv g (fun u => u = ht_dw g w dg wd wa (ht_fi t0))) 0 0 (ht_A g) := by
  refine Met.ofW (cc := b_D_finish) (maxL := 5) (ret := none) (by decide) rfl ?_
  intro p e s m args below meth c s₁ BB hml hv
  obtain ⟨rfl, HW⟩ := hv
  have HW := ht_I.start HW
  have hx := BB.exec
  have hb := BB.bytes
  have hr := BB.returns
  have hts := atoms_spec (ws := ws_D_finish) BB.pre
  have htb : ∀ w ∈ bg, w.before _ s = true := fun w h => hts w (List.mem_cons_of_mem _ h)
  have hown : s.vm.findClass R_D = some m.cls := findClass_of_methodNamed BB.named
  have hlocks := BB.notSynchronized
  have hl := lv_entry ([.ref dg]) (n := 5) (Nat.le_of_ble_eq_true rfl)
  rw [lg_entry_eq]
  generalize (lg_sl ([.ref dg]) ++ List.replicate (5 - (lg_sl ([.ref dg])).length) Slot.unset).toArray = ls at hl ⊢
  have hl : lv_has ls 5 [(0, .ref dg)] := hl
  obtain ⟨h_dg, h_wd, h_wa⟩ := id hD
  refine lv_ldc2 (v := 8) hx hb hown (htb _ wd_259) d_D_finish_0 ?_
  refine lv_aload_n hx hb d_D_finish_3 rfl (lv_at hl 0 rfl) ?_
  refine ht_get (C := R_D) (T := F_D) (N := 3) (v := .int t0.2.2) hx hb htb i_D hown HW h_dg rfl 2 (by decide) (htb _ wd_28) (fun _ h9 => h9) rfl d_D_finish_4 ?_
  refine lv_i2l (v := t0.2.2.toInt64) hx hb d_D_finish_7 rfl ?_
  refine lv_lmul hx hb d_D_finish_8 ?_
  refine lv_topl (fun b eb => ?_)
  refine lv_lstore_n (lv' := [(1, .long b), (0, .ref dg)]) hx hb d_D_finish_9 rfl hl (by decide) rfl (fun ls hl => ?_)
  refine lv_aload_n hx hb d_D_finish_10 rfl (lv_at hl 1 rfl) ?_
  refine lv_sipush (v := 128) hx hb d_D_finish_11 (by decide) ?_
  refine ht_cv HW (va_runV (own := R_D) (C := R_D) (As := [.int 128]) (rest := []) ⟨hx, hb, hml, hown, htb⟩ (c_D_take l g w (ws := t0.1) (wf := t0.2.1) (n0 := t0.2.2) hD 128) (cwV 1 htb (ht_gv wd_234 wd_235 wd_236 wd_2 g_D_take) rfl rfl rfl (by decide +kernel) ⟨Nat.le_of_ble_eq_true rfl, Nat.le_of_ble_eq_true rfl⟩) (HW.preV h_dg rfl _) rfl rfl hl.1 rfl (lv_room (Nat.le_of_ble_eq_true rfl)) d_D_finish_14 ⟨Nat.le_of_ble_eq_true rfl, Nat.le_of_ble_eq_true rfl⟩) (fun u1 H locs pw HW => ?_)
  have hD1 : ht_Dg g u1 dg wd wa (ht_tk t0 128) := by rw [pw]; exact hD.up
  obtain ⟨h_dg, h_wd, h_wa⟩ := id hD1
  refine lv_bipush (v := 56) hx hb d_D_finish_17 (by decide) ?_
  refine lv_aload_n hx hb d_D_finish_19 rfl (lv_at hl 1 rfl) ?_
  refine ht_get (C := R_D) (T := F_D) (N := 3) (v := .int ((ht_tk t0 128).2.2)) hx hb htb i_D hown HW h_dg rfl 2 (by decide) (htb _ wd_28) (fun _ h9 => h9) rfl d_D_finish_20 ?_
  refine lv_isub hx hb d_D_finish_23 ?_
  refine lv_bipush (v := 63) hx hb d_D_finish_24 (by decide) ?_
  refine lv_iand hx hb d_D_finish_26 ?_
  refine lv_topi (fun zz ezz => ?_)
  refine lv_istore_n (lv' := [(3, .int zz), (1, .long b), (0, .ref dg)]) hx hb d_D_finish_27 rfl hl (by decide) rfl (fun ls hl => ?_)
  refine lv_iconst (v := 0) hx hb d_D_finish_28 (by decide) ?_
  refine lv_istore (lv' := [(4, .int 0), (3, .int zz), (1, .long b), (0, .ref dg)]) hx hb d_D_finish_29 hl (by decide) rfl (fun ls hl => ?_)
  obtain ⟨z, hz64, hzz⟩ := pk_andE ((56 : Int32) - (ht_tk t0 128).2.2) (m := 63) 6 (by decide)
  have ezz : zz = nI z := by rw [ezz]; exact hzz
  have hz : z = (((56 : Int32) - (ht_tk t0 128).2.2) &&& 63).toNatClampNeg := by rw [hzz, nI_clamp (by omega)]
  have loop2 : ∀ (n : Nat), n ≤ 8 → ∀ (t1 : ht_D), ht_tl t1 b n = ht_fi t0 → ∀ (H : Heap) (locs : List Loc) (ls : Array Slot) (j : Int32), j + 8 = nI (8 * n) → ht_I g s (ht_dw g w dg wd wa t1) H locs → lv_has ls 5 [(0, .ref dg), (1, .long b), (4, .int j)] → W p l e (headSpec ws_D_finish ({ frames := 3, cells := 0, slots := 0, locals := 90 } : Room)).room s m ([.ref dg] : List Value).toArray below meth c H locs 0 0 (MQ below (ht_Qv g (fun u => u = ht_dw g w dg wd wa (ht_fi t0))) ([.ref dg] : List Value).toArray s 0 0 (ht_A g)) (F0 m 52 ls []) := by
    intro n
    induction n with
    | zero =>
      intro hn t1 ht H locs ls j ej HW hl
      obtain ⟨w1, hw1⟩ : ∃ z, z = ht_dw g w dg wd wa t1 := ⟨_, rfl⟩
      rw [← hw1] at HW
      have hD1 : ht_Dg g w1 dg wd wa t1 := by rw [hw1]; exact hD.up
      obtain ⟨h_dg, h_wd, h_wa⟩ := id hD1
      refine lv_iload hx hb d_D_finish_52 (lv_at hl 2 rfl) ?_
      refine lv_if_lt (tgt := 72) hx hb d_D_finish_54 (by decide) (fun c54 => ?_) (fun c54 => ?_)
      · exact ht_vret hx hb hr hlocks HW (hw1.trans (by rw [← ht]; rfl)) d_D_finish_72
      · exact absurd (ht_j80 ej) c54
    | succ n ih =>
      intro hn t1 ht H locs ls j ej HW hl
      obtain ⟨w1, hw1⟩ : ∃ z, z = ht_dw g w dg wd wa t1 := ⟨_, rfl⟩
      rw [← hw1] at HW
      have hD1 : ht_Dg g w1 dg wd wa t1 := by rw [hw1]; exact hD.up
      obtain ⟨h_dg, h_wd, h_wa⟩ := id hD1
      have ej1 : j = nI (8 * n) := ht_j8 ej
      refine lv_iload hx hb d_D_finish_52 (lv_at hl 2 rfl) ?_
      refine lv_if_lt (tgt := 72) hx hb d_D_finish_54 (by decide) (fun c54 => ?_) (fun c54 => ?_)
      · exact absurd c54 (by rw [ej1]; exact nI_pos (by omega))
      · refine lv_aload_n hx hb d_D_finish_57 rfl (lv_at hl 0 rfl) ?_
        refine lv_lload_n hx hb d_D_finish_58 rfl (lv_at hl 1 rfl) ?_
        refine lv_iload hx hb d_D_finish_59 (lv_at hl 2 rfl) ?_
        refine lv_lushr (v := (b.toUInt64 >>> (j.toInt64.toUInt64 &&& Int64.toUInt64 63)).toInt64) hx hb d_D_finish_61 rfl ?_
        refine lv_l2i (v := ((b.toUInt64 >>> (j.toInt64.toUInt64 &&& Int64.toUInt64 63)).toInt64).toInt32) hx hb d_D_finish_62 rfl ?_
        refine lv_topi (fun b1 eb1 => ?_)
        have eb1 : b1 = ht_by b n := by rw [eb1, ej1]; unfold ht_by; rw [show (8 : Int32) = nI 8 from rfl, pk_mul]
        refine ht_cv HW (va_runV (own := R_D) (C := R_D) (As := [.int b1]) (rest := []) ⟨hx, hb, hml, hown, htb⟩ (c_D_take l g w1 (ws := t1.1) (wf := t1.2.1) (n0 := t1.2.2) hD1 b1) (cwV 1 htb (ht_gv wd_234 wd_235 wd_236 wd_2 g_D_take) rfl rfl rfl (by decide +kernel) ⟨Nat.le_of_ble_eq_true rfl, Nat.le_of_ble_eq_true rfl⟩) (HW.preV h_dg rfl _) rfl rfl hl.1 rfl (lv_room (Nat.le_of_ble_eq_true rfl)) d_D_finish_63 ⟨Nat.le_of_ble_eq_true rfl, Nat.le_of_ble_eq_true rfl⟩) (fun u1 H locs pw HW => ?_)
        obtain ⟨j2, ej2⟩ : ∃ y : Int32, y = j + (-8) := ⟨_, rfl⟩
        refine lv_iinc (v := j2) (lv' := [(4, .int j2), (0, .ref dg), (1, .long b)]) hx hb d_D_finish_66 hl (k := 2) rfl (by rw [ej2]; rfl) (by decide) rfl (fun ls hl => ?_)
        refine lv_goto (tgt := 52) hx hb d_D_finish_69 (by decide) ?_
        refine ih (by omega) (ht_tk t1 (ht_by b n)) ht _ _ _ j2 (by rw [ej2, ej1]; exact ht_c9 _) (HW.to ?_) (lv_sub hl [1, 2, 0] rfl)
        rw [pw, hw1, hD.dw, eb1]
  have loop1 : ∀ (n i : Nat), i + n = z → ∀ (t1 : ht_D), ht_tz t1 n = ht_tz (ht_tk t0 128) z → ∀ (H : Heap) (locs : List Loc) (ls : Array Slot) (j : Int32), j = nI i → ht_I g s (ht_dw g w dg wd wa t1) H locs → lv_has ls 5 [(0, .ref dg), (1, .long b), (3, .int zz), (4, .int j)] → W p l e (headSpec ws_D_finish ({ frames := 3, cells := 0, slots := 0, locals := 90 } : Room)).room s m ([.ref dg] : List Value).toArray below meth c H locs 0 0 (MQ below (ht_Qv g (fun u => u = ht_dw g w dg wd wa (ht_fi t0))) ([.ref dg] : List Value).toArray s 0 0 (ht_A g)) (F0 m 31 ls []) := by
    intro n
    induction n with
    | zero =>
      intro i hi t1 ht H locs ls j ej HW hl
      obtain ⟨w1, hw1⟩ : ∃ z, z = ht_dw g w dg wd wa t1 := ⟨_, rfl⟩
      rw [← hw1] at HW
      have hD1 : ht_Dg g w1 dg wd wa t1 := by rw [hw1]; exact hD.up
      obtain ⟨h_dg, h_wd, h_wa⟩ := id hD1
      refine lv_iload hx hb d_D_finish_31 (lv_at hl 3 rfl) ?_
      refine lv_iload_n hx hb d_D_finish_33 rfl (lv_at hl 2 rfl) ?_
      refine lv_icmp_ge (tgt := 48) hx hb d_D_finish_34 (by decide) (fun c34 => ?_) (fun c34 => ?_)
      · refine lv_bipush (v := 56) hx hb d_D_finish_48 (by decide) ?_
        refine lv_istore (lv' := [(4, .int 56), (0, .ref dg), (1, .long b), (3, .int zz)]) hx hb d_D_finish_50 hl (by decide) rfl (fun ls hl => ?_)
        exact loop2 8 (Nat.le_refl 8) t1 (by rw [show t1 = ht_tz (ht_tk t0 128) z from ht, hz, eb]; rfl) _ _ _ 56 rfl (HW.to hw1) (lv_sub hl [1, 2, 0] rfl)
      · exact absurd (by rw [ej, ezz]; exact nI_le (by omega) (by omega)) c34
    | succ n ih =>
      intro i hi t1 ht H locs ls j ej HW hl
      obtain ⟨w1, hw1⟩ : ∃ z, z = ht_dw g w dg wd wa t1 := ⟨_, rfl⟩
      rw [← hw1] at HW
      have hD1 : ht_Dg g w1 dg wd wa t1 := by rw [hw1]; exact hD.up
      obtain ⟨h_dg, h_wd, h_wa⟩ := id hD1
      refine lv_iload hx hb d_D_finish_31 (lv_at hl 3 rfl) ?_
      refine lv_iload_n hx hb d_D_finish_33 rfl (lv_at hl 2 rfl) ?_
      refine lv_icmp_ge (tgt := 48) hx hb d_D_finish_34 (by decide) (fun c34 => ?_) (fun c34 => ?_)
      · exact absurd (by rw [ej, ezz] at c34; exact c34) (nI_ge (show i < z by omega) (by omega))
      · refine lv_aload_n hx hb d_D_finish_37 rfl (lv_at hl 0 rfl) ?_
        refine lv_iconst (v := 0) hx hb d_D_finish_38 (by decide) ?_
        refine ht_cv HW (va_runV (own := R_D) (C := R_D) (As := [.int 0]) (rest := []) ⟨hx, hb, hml, hown, htb⟩ (c_D_take l g w1 (ws := t1.1) (wf := t1.2.1) (n0 := t1.2.2) hD1 0) (cwV 1 htb (ht_gv wd_234 wd_235 wd_236 wd_2 g_D_take) rfl rfl rfl (by decide +kernel) ⟨Nat.le_of_ble_eq_true rfl, Nat.le_of_ble_eq_true rfl⟩) (HW.preV h_dg rfl _) rfl rfl hl.1 rfl (lv_room (Nat.le_of_ble_eq_true rfl)) d_D_finish_39 ⟨Nat.le_of_ble_eq_true rfl, Nat.le_of_ble_eq_true rfl⟩) (fun u1 H locs pw HW => ?_)
        obtain ⟨j2, ej2⟩ : ∃ y : Int32, y = j + 1 := ⟨_, rfl⟩
        refine lv_iinc (v := j2) (lv' := [(4, .int j2), (0, .ref dg), (1, .long b), (3, .int zz)]) hx hb d_D_finish_42 hl (k := 3) rfl (by rw [ej2]; rfl) (by decide) rfl (fun ls hl => ?_)
        refine lv_goto (tgt := 31) hx hb d_D_finish_45 (by decide) ?_
        refine ih (i + 1) (by omega) (ht_tk t1 0) ht _ _ _ j2 (by rw [ej2, ej, nI_1]) (HW.to ?_) (lv_sub hl [1, 2, 3, 0] rfl)
        rw [pw, hw1, hD.dw]
  exact loop1 z 0 (by omega) (ht_tk t0 128) rfl _ _ _ 0 rfl (HW.to pw) (lv_sub hl [3, 2, 1, 0] rfl)
end
section
def ht_nu (ws : Nat → Int32) (i : Nat) : Int64 := ((ws (2 * i)).toInt64 <<< ((32 : Int32).toInt64 &&& 63)) ||| ((ws (2 * i + 1)).toInt64 &&& 4294967295)
set_option maxHeartbeats 4000000 in
set_option maxRecDepth 100000 in
theorem c_D_number (l : Launch) (g : ht_G) (w : ht_W) {dg wd wa : Nat} {t0 : ht_D} (hD : ht_Dg g w dg wd wa t0) (i : Nat) (hi : i < 4) (k1 : Int32) (ek1 : k1 = nI i) : Met l y_D_number ws_D_number ({ frames := 0, cells := 0, slots := 0, locals := 0 } : Room) (va_Pc [.ref dg, .int k1] (ht_WS g w)) (ht_Ql g (fun r u => r = ht_nu t0.1 i ∧ w = u)) 0 0 (ht_A g) := by
  refine Met.ofW (cc := b_D_number) (maxL := 3) (ret := (some .long)) (by decide) rfl ?_
  intro p e s m args below meth c s₁ BB hml hv
  obtain ⟨rfl, HW⟩ := hv
  have HW := ht_I.start HW
  have hx := BB.exec
  have hb := BB.bytes
  have hr := BB.returns
  have hts := atoms_spec (ws := ws_D_number) BB.pre
  have htb : ∀ w ∈ bg, w.before _ s = true := fun w h => hts w (List.mem_cons_of_mem _ h)
  have hown : s.vm.findClass R_D = some m.cls := findClass_of_methodNamed BB.named
  have hlocks := BB.notSynchronized
  have hl := lv_entry ([.ref dg, .int k1]) (n := 3) (Nat.le_of_ble_eq_true rfl)
  rw [lg_entry_eq]
  generalize (lg_sl ([.ref dg, .int k1]) ++ List.replicate (3 - (lg_sl ([.ref dg, .int k1])).length) Slot.unset).toArray = ls at hl ⊢
  have hl : lv_has ls 3 [(0, .ref dg), (1, .int k1)] := hl
  obtain ⟨h_dg, h_wd, h_wa⟩ := id hD
  refine lv_iconst (v := 2) hx hb d_D_number_0 (by decide) ?_
  refine lv_iload_n hx hb d_D_number_1 rfl (lv_at hl 1 rfl) ?_
  refine lv_imul hx hb d_D_number_2 ?_
  refine lv_bipush (v := 7) hx hb d_D_number_3 (by decide) ?_
  refine lv_iand hx hb d_D_number_5 ?_
  refine lv_topi (fun x1 ex1 => ?_)
  refine lv_istore_n (lv' := [(2, .int x1), (0, .ref dg), (1, .int k1)]) hx hb d_D_number_6 rfl hl (by decide) rfl (fun ls hl => ?_)
  have ex1 : x1 = nI (2 * i) := by
    rw [ex1, ek1, show (2 : Int32) = nI 2 from rfl, pk_mul, pk_andN (by omega) (m := 7) 3 (by decide)]
    congr 1
    omega
  refine lv_aload_n hx hb d_D_number_7 rfl (lv_at hl 1 rfl) ?_
  refine ht_get (C := R_D) (T := F_D) (N := 3) (v := .ref wd) hx hb htb i_D hown HW h_dg rfl 0 (by decide) (htb _ wd_26) (fun _ h9 => h9) rfl d_D_number_8 ?_
  refine lv_iload_n hx hb d_D_number_11 rfl (lv_at hl 0 rfl) ?_
  refine ht_iald hx hb HW h_wd (by rw [ex1]; exact vp_in_nI (by omega) (by omega)) d_D_number_12 ?_
  refine lv_topi (fun z1 ez1 => ?_)
  have ez1 : z1 = t0.1 (2 * i) := by rw [ez1, ex1, nI_clamp (by omega)]
  refine lv_i2l (v := z1.toInt64) hx hb d_D_number_13 rfl ?_
  refine lv_bipush (v := 32) hx hb d_D_number_14 (by decide) ?_
  refine lv_lshl (v := z1.toInt64 <<< ((32 : Int32).toInt64 &&& 63)) hx hb d_D_number_16 rfl ?_
  refine lv_aload_n hx hb d_D_number_17 rfl (lv_at hl 1 rfl) ?_
  refine ht_get (C := R_D) (T := F_D) (N := 3) (v := .ref wd) hx hb htb i_D hown HW h_dg rfl 0 (by decide) (htb _ wd_26) (fun _ h9 => h9) rfl d_D_number_18 ?_
  refine lv_iload_n hx hb d_D_number_21 rfl (lv_at hl 0 rfl) ?_
  refine lv_iconst (v := 1) hx hb d_D_number_22 (by decide) ?_
  refine lv_iadd hx hb d_D_number_23 ?_
  refine lv_topi (fun x2 ex2 => ?_)
  have ex2 : x2 = nI (2 * i + 1) := by rw [ex2, ex1, nI_1]
  refine ht_iald hx hb HW h_wd (by rw [ex2]; exact vp_in_nI (by omega) (by omega)) d_D_number_24 ?_
  refine lv_topi (fun z2 ez2 => ?_)
  have ez2 : z2 = t0.1 (2 * i + 1) := by rw [ez2, ex2, nI_clamp (by omega)]
  refine lv_i2l (v := z2.toInt64) hx hb d_D_number_25 rfl ?_
  refine lv_ldc2 (v := 4294967295) hx hb hown (htb _ wd_264) d_D_number_26 ?_
  refine lv_land hx hb d_D_number_29 ?_
  refine lv_lor hx hb d_D_number_30 ?_
  exact ht_lret hx hb hr hlocks HW ⟨by simp only [ex1, ez1, ex2, ez2]; rfl, rfl⟩ d_D_number_31
end
section
def ht_w0 (j : Nat) : Int32 := ht_w8.getD j 0
theorem ht_cp0 {α : Type} {f g : Nat → α} {n j : Nat} (h : j < n) : va_cpy f g 0 0 n j = f j := by
  rw [pk_cpy_in (Nat.zero_le j) (by omega)]
  congr 1
  omega
set_option maxHeartbeats 4000000 in
set_option maxRecDepth 100000 in
theorem c_D_begin (l : Launch) (g : ht_G) (w : ht_W) {dg wd wa : Nat} {t0 : ht_D} (hD : ht_Dg g w dg wd wa t0) : Met l y_D_begin ws_D_begin ({ frames := 1, cells := 0, slots := 0, locals := 60 } : Room) (va_Pc [.ref dg] (ht_WS g w)) (ht_Qv g (fun u => u = ht_dw g w dg wd wa (ht_w0, t0.2.1, 0))) 0 0 (ht_A g) := by
  refine Met.ofW (cc := b_D_begin) (maxL := 1) (ret := none) (by decide) rfl ?_
  intro p e s m args below meth c s₁ BB hml hv
  obtain ⟨rfl, HW⟩ := hv
  have HW := ht_I.start HW
  have hx := BB.exec
  have hb := BB.bytes
  have hr := BB.returns
  have hts := atoms_spec (ws := ws_D_begin) BB.pre
  have htb : ∀ w ∈ bg, w.before _ s = true := fun w h => hts w (List.mem_cons_of_mem _ h)
  have hown : s.vm.findClass R_D = some m.cls := findClass_of_methodNamed BB.named
  have hlocks := BB.notSynchronized
  have hl := lv_entry ([.ref dg]) (n := 1) (Nat.le_of_ble_eq_true rfl)
  rw [lg_entry_eq]
  generalize (lg_sl ([.ref dg]) ++ List.replicate (1 - (lg_sl ([.ref dg])).length) Slot.unset).toArray = ls at hl ⊢
  have hl : lv_has ls 1 [(0, .ref dg)] := hl
  obtain ⟨h_dg, h_wd, h_wa⟩ := id hD
  refine ht_gets hx hb HW.2.2.1.2.1 HW hown (htb _ wd_229) (fun _ h9 => h9) d_D_begin_0 ?_
  refine lv_iconst (v := 0) hx hb d_D_begin_3 (by decide) ?_
  refine lv_aload_n hx hb d_D_begin_4 rfl (lv_at hl 0 rfl) ?_
  refine ht_get (C := R_D) (T := F_D) (N := 3) (v := .ref wd) hx hb htb i_D hown HW h_dg rfl 0 (by decide) (htb _ wd_26) (fun _ h9 => h9) rfl d_D_begin_5 ?_
  refine lv_iconst (v := 0) hx hb d_D_begin_8 (by decide) ?_
  refine lv_bipush (v := 8) hx hb d_D_begin_9 (by decide) ?_
  refine ht_cpt (f := ht_w0) hx hb (hml.trans hl.1.symm) hown (htb _ wd_231) (htb _ wd_233) (htb _ wd_232) (htb _ wd_9) HW HW.2.2.1.2.1.2 h_wd (by decide) (by decide) (by decide) (by decide) (by decide) (Nat.le_of_ble_eq_true rfl) (by decide +kernel) d_D_begin_11 (fun H locs HW => ?_)
  have HW := HW.cg (ht_eqv_i (f' := ht_w0) (fun j hj => ht_cp0 hj))
  have n_wa_wd : wa ≠ wd := (Ne.symm hD.n3)
  obtain ⟨u1, hu1⟩ : ∃ z, z = ht_up w wd (ht_ai g 8 ht_w0) := ⟨_, rfl⟩
  have HW : ht_I g s u1 H locs := by rw [hu1]; exact HW
  have h_dg : ht_at u1 dg (.inr (1, [.ref wd, .ref wa, .int t0.2.2]) : va_E) := by rw [hu1]; exact ht_at_ne h_dg hD.n1
  have h_wd : ht_at u1 wd (ht_ai g 8 ht_w0) := by rw [hu1]; exact ht_at_self h_wd
  have h_wa : ht_at u1 wa (ht_ai g 64 t0.2.1) := by rw [hu1]; exact ht_at_ne h_wa n_wa_wd
  refine lv_aload_n hx hb d_D_begin_14 rfl (lv_at hl 0 rfl) ?_
  refine lv_iconst (v := 0) hx hb d_D_begin_15 (by decide) ?_
  refine ht_put (C := R_D) (T := F_D) (N := 3) (v := .int 0) (ty := .int) hx hb htb i_D t_D t_D_ok n_D hown HW h_dg rfl 2 (by decide) (htb _ wd_28) (fun _ h9 => h9) rfl (by decide +kernel) rfl rfl (Nat.le_of_ble_eq_true rfl) d_D_begin_16 (fun H locs HW => ?_)
  have n_wd_dg : wd ≠ dg := (Ne.symm hD.n1)
  have n_wa_dg : wa ≠ dg := (Ne.symm hD.n2)
  obtain ⟨u2, hu2⟩ : ∃ z, z = ht_up u1 dg (.inr (1, [.ref wd, .ref wa, .int 0]) : va_E) := ⟨_, rfl⟩
  have HW : ht_I g s u2 H locs := by rw [hu2]; exact HW
  have h_dg : ht_at u2 dg (.inr (1, [.ref wd, .ref wa, .int 0]) : va_E) := by rw [hu2]; exact ht_at_self h_dg
  have h_wd : ht_at u2 wd (ht_ai g 8 ht_w0) := by rw [hu2]; exact ht_at_ne h_wd n_wd_dg
  have h_wa : ht_at u2 wa (ht_ai g 64 t0.2.1) := by rw [hu2]; exact ht_at_ne h_wa n_wa_dg
  exact ht_vret hx hb hr hlocks HW (by rw [hu2, hu1]; unfold ht_dw; rw [ht_up_comm hD.n1.symm, ht_up_id (w := ht_up (ht_up w dg _) wd _) (ht_at_ne (ht_at_ne hD.2.2 hD.n2.symm) hD.n3.symm)]) d_D_begin_19
end
section
/-- four numbers taken, eight bytes each -/
def ht_ts (t : ht_D) (f : Nat → Int64) : Nat → ht_D
  | 0 => t
  | k + 1 => ht_tl (ht_ts t f k) (f k) 8
def ht_jt (row : Nat → Int32) (mark : Int32) (lf rf : Nat → Int64) : ht_D := ht_fi (ht_ts (ht_ts (ht_tk (ht_w0, row, 0) mark) lf 4) rf 4)
def ht_kn (ws : Nat → Int32) : ht_K := (ht_nu ws 0, ht_nu ws 1, ht_nu ws 2, ht_nu ws 3)
def ht_jf (ws : Nat → Int32) (f0 : Nat → Int64) (k : Nat) : Nat → Int64 := fun j => if j < k then ht_nu ws j else f0 j
theorem ht_jf_s {ws : Nat → Int32} {f0 : Nat → Int64} {k : Nat} : vp_updL (ht_jf ws f0 k) k (ht_nu ws k) = ht_jf ws f0 (k + 1) := by
  funext j
  unfold vp_updL ht_jf
  by_cases h : j = k
  · subst h
    rw [if_pos rfl, if_pos (Nat.lt_succ_self j)]
  · rw [if_neg h]
    by_cases h2 : j < k
    · rw [if_pos h2, if_pos (by omega)]
    · rw [if_neg h2, if_neg (by omega)]
theorem ht_jf_4 {ws : Nat → Int32} {f0 : Nat → Int64} : ∀ j, j < 4 → ht_jf ws f0 4 j = ht_kf (ht_kn ws) j := by
  intro j hj
  unfold ht_jf
  rw [if_pos hj]
  rcases (show j = 0 ∨ j = 1 ∨ j = 2 ∨ j = 3 by omega) with rfl | rfl | rfl | rfl <;> rfl
theorem ht_ne_ol {ci n : Nat} {fs : List Value} {g : ht_G} {f : Nat → Int64} : ht_al g n f ≠ (.inr (ci, fs) : va_E) := fun z => by cases z
theorem ht_ne_li {n n' : Nat} {g : ht_G} {f : Nat → Int64} {f' : Nat → Int32} : ht_al g n f ≠ ht_ai g n' f' := fun z => by injection z with z; injection z with z1 z2; injection z2 with z3 z4; cases z4
theorem ht_Dg.al {g : ht_G} {w : ht_W} {dg wd wa b n : Nat} {t t' : ht_D} {f : Nat → Int64} (h : ht_Dg g w dg wd wa t) (hb : ht_at w b (ht_al g n f)) : ht_at (ht_dw g w dg wd wa t') b (ht_al g n f) := ht_Dg.ne hb (ht_ne hb h.1 ht_ne_ol) (ht_ne hb h.2.1 ht_ne_li) (ht_ne hb h.2.2 ht_ne_li)
theorem ht_Dg.rd {g : ht_G} {w : ht_W} {dg wd wa b : Nat} {t t' : ht_D} {f : Nat → Int64} (h : ht_Dg g w dg wd wa t) (hb : ht_rd g w b f) : ht_rd g (ht_dw g w dg wd wa t') b f := hb.elim (fun q => Or.inl (h.al q)) Or.inr
theorem ht_Dg.of_al {g : ht_G} {w : ht_W} {dg wd wa b n n' : Nat} {t : ht_D} {f f' : Nat → Int64} (h : ht_Dg g w dg wd wa t) (hb : ht_at w b (ht_al g n f)) : ht_Dg g (ht_up w b (ht_al g n' f')) dg wd wa t := ⟨ht_at_ne h.1 (ht_ne h.1 hb (Ne.symm ht_ne_ol)), ht_at_ne h.2.1 (ht_ne h.2.1 hb (Ne.symm ht_ne_li)), ht_at_ne h.2.2 (ht_ne h.2.2 hb (Ne.symm ht_ne_li))⟩
set_option maxHeartbeats 4000000 in
set_option maxRecDepth 100000 in
theorem c_D_join (l : Launch) (g : ht_G) (w : ht_W) {dg wd wa : Nat} {t0 : ht_D} (hD : ht_Dg g w dg wd wa t0) (mk : Int32) {la ra ia : Nat} {lf rf f0 : Nat → Int64} (hL : ht_rd g w la lf) (hR : ht_rd g w ra rf) (hI : ht_at w ia (ht_al g 4 f0)) : Met l y_D_join ws_D_join ({ frames := 4, cells := 0, slots := 0, locals := 120 } : Room) (va_Pc [.ref dg, .int mk, .ref la, .ref ra, .ref ia] (ht_WS g w)) (ht_Qv g (fun u => u = ht_up (ht_dw g w dg wd wa (ht_jt t0.2.1 mk lf rf)) ia (ht_al g 4 (ht_kf (ht_kn (ht_jt t0.2.1 mk lf rf).1))))) 0 0 (ht_A g) := by
  refine Met.ofW (cc := b_D_join) (maxL := 6) (ret := none) (by decide) rfl ?_
  intro p e s m args below meth c s₁ BB hml hv
  obtain ⟨rfl, HW⟩ := hv
  have HW := ht_I.start HW
  have hx := BB.exec
  have hb := BB.bytes
  have hr := BB.returns
  have hts := atoms_spec (ws := ws_D_join) BB.pre
  have htb : ∀ w ∈ bg, w.before _ s = true := fun w h => hts w (List.mem_cons_of_mem _ h)
  have hown : s.vm.findClass R_D = some m.cls := findClass_of_methodNamed BB.named
  have hlocks := BB.notSynchronized
  have hl := lv_entry ([.ref dg, .int mk, .ref la, .ref ra, .ref ia]) (n := 6) (Nat.le_of_ble_eq_true rfl)
  rw [lg_entry_eq]
  generalize (lg_sl ([.ref dg, .int mk, .ref la, .ref ra, .ref ia]) ++ List.replicate (6 - (lg_sl ([.ref dg, .int mk, .ref la, .ref ra, .ref ia])).length) Slot.unset).toArray = ls at hl ⊢
  have hl : lv_has ls 6 [(0, .ref dg), (1, .int mk), (2, .ref la), (3, .ref ra), (4, .ref ia)] := hl
  have loop3 : ∀ (n k : Nat), k + n = 4 → ∀ (H : Heap) (locs : List Loc) (ls : Array Slot) (j : Int32), j = nI k → ht_I g s (ht_up (ht_dw g w dg wd wa (ht_jt t0.2.1 mk lf rf)) ia (ht_al g 4 (ht_jf (ht_jt t0.2.1 mk lf rf).1 f0 k))) H locs → lv_has ls 6 [(0, .ref dg), (4, .ref ia), (5, .int j)] → W p l e (headSpec ws_D_join ({ frames := 4, cells := 0, slots := 0, locals := 120 } : Room)).room s m ([.ref dg, .int mk, .ref la, .ref ra, .ref ia] : List Value).toArray below meth c H locs 0 0 (MQ below (ht_Qv g (fun u => u = ht_up (ht_dw g w dg wd wa (ht_jt t0.2.1 mk lf rf)) ia (ht_al g 4 (ht_kf (ht_kn (ht_jt t0.2.1 mk lf rf).1))))) ([.ref dg, .int mk, .ref la, .ref ra, .ref ia] : List Value).toArray s 0 0 (ht_A g)) (F0 m 66 ls []) := by
    intro n
    induction n with
    | zero =>
      intro k hk H locs ls j ej HW hl
      obtain ⟨w1, hw1⟩ : ∃ z, z = ht_up (ht_dw g w dg wd wa (ht_jt t0.2.1 mk lf rf)) ia (ht_al g 4 (ht_jf (ht_jt t0.2.1 mk lf rf).1 f0 k)) := ⟨_, rfl⟩
      rw [← hw1] at HW
      have hD1 : ht_Dg g w1 dg wd wa (ht_jt t0.2.1 mk lf rf) := by rw [hw1]; exact hD.up.of_al (hD.al hI)
      have h_ia : ht_at w1 ia (ht_al g 4 (ht_jf (ht_jt t0.2.1 mk lf rf).1 f0 k)) := by rw [hw1]; exact ht_at_self (hD.al hI)
      obtain ⟨h_dg, h_wd, h_wa⟩ := id hD1
      have hn1 : dg ≠ ia := ht_ne h_dg h_ia (Ne.symm ht_ne_ol)
      have hn2 : wd ≠ ia := ht_ne h_wd h_ia (Ne.symm ht_ne_li)
      have hn3 : wa ≠ ia := ht_ne h_wa h_ia (Ne.symm ht_ne_li)
      refine lv_iload hx hb d_D_join_66 (lv_at hl 2 rfl) ?_
      refine lv_iconst (v := 4) hx hb d_D_join_68 (by decide) ?_
      refine lv_icmp_ge (tgt := 89) hx hb d_D_join_69 (by decide) (fun c69 => ?_) (fun c69 => ?_)
      · have hk4 : k = 4 := by omega
        subst hk4
        rw [hw1] at HW
        have HW := HW.cg (ht_eqv_l ht_jf_4)
        exact ht_vret hx hb hr hlocks HW rfl d_D_join_89
      · exact absurd (by rw [ej]; exact nI_le (show 4 ≤ k by omega) (by omega)) c69
    | succ n ih =>
      intro k hk H locs ls j ej HW hl
      obtain ⟨w1, hw1⟩ : ∃ z, z = ht_up (ht_dw g w dg wd wa (ht_jt t0.2.1 mk lf rf)) ia (ht_al g 4 (ht_jf (ht_jt t0.2.1 mk lf rf).1 f0 k)) := ⟨_, rfl⟩
      rw [← hw1] at HW
      have hD1 : ht_Dg g w1 dg wd wa (ht_jt t0.2.1 mk lf rf) := by rw [hw1]; exact hD.up.of_al (hD.al hI)
      have h_ia : ht_at w1 ia (ht_al g 4 (ht_jf (ht_jt t0.2.1 mk lf rf).1 f0 k)) := by rw [hw1]; exact ht_at_self (hD.al hI)
      obtain ⟨h_dg, h_wd, h_wa⟩ := id hD1
      have hn1 : dg ≠ ia := ht_ne h_dg h_ia (Ne.symm ht_ne_ol)
      have hn2 : wd ≠ ia := ht_ne h_wd h_ia (Ne.symm ht_ne_li)
      have hn3 : wa ≠ ia := ht_ne h_wa h_ia (Ne.symm ht_ne_li)
      refine lv_iload hx hb d_D_join_66 (lv_at hl 2 rfl) ?_
      refine lv_iconst (v := 4) hx hb d_D_join_68 (by decide) ?_
      refine lv_icmp_ge (tgt := 89) hx hb d_D_join_69 (by decide) (fun c69 => ?_) (fun c69 => ?_)
      · exact absurd (by rw [ej] at c69; exact c69) (nI_ge (show k < 4 by omega) (by omega))
      · refine lv_aload hx hb d_D_join_72 (lv_at hl 1 rfl) ?_
        refine lv_iload hx hb d_D_join_74 (lv_at hl 2 rfl) ?_
        refine lv_aload_n hx hb d_D_join_76 rfl (lv_at hl 0 rfl) ?_
        refine lv_iload hx hb d_D_join_77 (lv_at hl 2 rfl) ?_
        refine ht_cl HW (va_runV (own := R_D) (C := R_D) (As := [.int j]) (rest := [.int j, .ref ia]) ⟨hx, hb, hml, hown, htb⟩ (c_D_number l g w1 hD1 k (by omega) j ej) (cwV 1 htb (ht_gv wd_260 wd_261 wd_262 wd_2 g_D_number) rfl rfl rfl (by decide +kernel) ⟨Nat.le_of_ble_eq_true rfl, Nat.le_of_ble_eq_true rfl⟩) (HW.preV h_dg rfl _) rfl rfl hl.1 rfl (lv_room (Nat.le_of_ble_eq_true rfl)) d_D_join_79 ⟨Nat.le_of_ble_eq_true rfl, Nat.le_of_ble_eq_true rfl⟩) (fun q2 u1 H locs pu1 HW => ?_)
        obtain ⟨eq2, eu1⟩ := pu1
        subst eu1
        refine ht_last hx hb HW h_ia (by rw [ej]; exact vp_in_nI (by omega) (by omega)) d_D_join_82 (fun H locs HW => ?_)
        rw [ej, nI_clamp (by omega)] at HW
        obtain ⟨u3, hu3⟩ : ∃ z, z = ht_up w1 ia (ht_al g 4 (vp_updL (ht_jf (ht_jt t0.2.1 mk lf rf).1 f0 k) k q2)) := ⟨_, rfl⟩
        have HW : ht_I g s u3 H locs := by rw [hu3]; exact HW
        have h_dg : ht_at u3 dg (.inr (1, [.ref wd, .ref wa, .int ((ht_jt t0.2.1 mk lf rf).2.2)]) : va_E) := by rw [hu3]; exact ht_at_ne h_dg hn1
        have h_wd : ht_at u3 wd (ht_ai g 8 ((ht_jt t0.2.1 mk lf rf).1)) := by rw [hu3]; exact ht_at_ne h_wd hn2
        have h_wa : ht_at u3 wa (ht_ai g 64 ((ht_jt t0.2.1 mk lf rf).2.1)) := by rw [hu3]; exact ht_at_ne h_wa hn3
        have h_ia : ht_at u3 ia (ht_al g 4 (vp_updL (ht_jf (ht_jt t0.2.1 mk lf rf).1 f0 k) k q2)) := by rw [hu3]; exact ht_at_self h_ia
        obtain ⟨j2, ej2⟩ : ∃ y : Int32, y = j + 1 := ⟨_, rfl⟩
        refine lv_iinc (v := j2) (lv' := [(5, .int j2), (0, .ref dg), (4, .ref ia)]) hx hb d_D_join_83 hl (k := 2) rfl (by rw [ej2]; rfl) (by decide) rfl (fun ls hl => ?_)
        refine lv_goto (tgt := 66) hx hb d_D_join_86 (by decide) ?_
        refine ih (k + 1) (by omega) _ _ _ j2 (by rw [ej2, ej, nI_1]) (HW.to ?_) (lv_sub hl [1, 2, 0] rfl)
        rw [hu3, hw1, ht_up_up, eq2, ht_jf_s]
  have loop2 : ∀ (n k : Nat), k + n = 4 → ∀ (H : Heap) (locs : List Loc) (ls : Array Slot) (j : Int32), j = nI k → ht_I g s (ht_dw g w dg wd wa (ht_ts (ht_ts (ht_tk (ht_w0, t0.2.1, 0) mk) lf 4) rf k)) H locs → lv_has ls 6 [(0, .ref dg), (2, .ref la), (3, .ref ra), (4, .ref ia), (5, .int j)] → W p l e (headSpec ws_D_join ({ frames := 4, cells := 0, slots := 0, locals := 120 } : Room)).room s m ([.ref dg, .int mk, .ref la, .ref ra, .ref ia] : List Value).toArray below meth c H locs 0 0 (MQ below (ht_Qv g (fun u => u = ht_up (ht_dw g w dg wd wa (ht_jt t0.2.1 mk lf rf)) ia (ht_al g 4 (ht_kf (ht_kn (ht_jt t0.2.1 mk lf rf).1))))) ([.ref dg, .int mk, .ref la, .ref ra, .ref ia] : List Value).toArray s 0 0 (ht_A g)) (F0 m 37 ls []) := by
    intro n
    induction n with
    | zero =>
      intro k hk H locs ls j ej HW hl
      obtain ⟨w1, hw1⟩ : ∃ z, z = ht_dw g w dg wd wa (ht_ts (ht_ts (ht_tk (ht_w0, t0.2.1, 0) mk) lf 4) rf k) := ⟨_, rfl⟩
      rw [← hw1] at HW
      have hD1 : ht_Dg g w1 dg wd wa (ht_ts (ht_ts (ht_tk (ht_w0, t0.2.1, 0) mk) lf 4) rf k) := by rw [hw1]; exact hD.up
      obtain ⟨h_dg, h_wd, h_wa⟩ := id hD1
      have hk4 : k = 4 := by omega
      subst hk4
      refine lv_iload hx hb d_D_join_37 (lv_at hl 4 rfl) ?_
      refine lv_iconst (v := 4) hx hb d_D_join_39 (by decide) ?_
      refine lv_icmp_ge (tgt := 59) hx hb d_D_join_40 (by decide) (fun c40 => ?_) (fun c40 => ?_)
      · refine lv_aload_n hx hb d_D_join_59 rfl (lv_at hl 0 rfl) ?_
        refine ht_cv HW (va_runV (own := R_D) (C := R_D) (As := []) (rest := []) ⟨hx, hb, hml, hown, htb⟩ (c_D_finish l g w1 hD1) (cwV 0 htb (ht_gv wd_255 wd_256 wd_257 wd_2 g_D_finish) rfl rfl rfl (by decide +kernel) ⟨Nat.le_of_ble_eq_true rfl, Nat.le_of_ble_eq_true rfl⟩) (HW.preV h_dg rfl _) rfl rfl hl.1 rfl (lv_room (Nat.le_of_ble_eq_true rfl)) d_D_join_60 ⟨Nat.le_of_ble_eq_true rfl, Nat.le_of_ble_eq_true rfl⟩) (fun u1 H locs pw HW => ?_)
        refine lv_iconst (v := 0) hx hb d_D_join_63 (by decide) ?_
        refine lv_istore (lv' := [(5, .int 0), (0, .ref dg), (2, .ref la), (3, .ref ra), (4, .ref ia)]) hx hb d_D_join_64 hl (by decide) rfl (fun ls hl => ?_)
        refine loop3 4 0 rfl _ _ _ 0 rfl (HW.to ?_) (lv_sub hl [1, 4, 0] rfl)
        rw [pw, hw1, hD.dw]
        exact (ht_up_id (hD.al hI)).symm
      · exact absurd (by rw [ej]; exact nI_le (Nat.le_refl 4) (by omega)) c40
    | succ n ih =>
      intro k hk H locs ls j ej HW hl
      obtain ⟨w1, hw1⟩ : ∃ z, z = ht_dw g w dg wd wa (ht_ts (ht_ts (ht_tk (ht_w0, t0.2.1, 0) mk) lf 4) rf k) := ⟨_, rfl⟩
      rw [← hw1] at HW
      have hD1 : ht_Dg g w1 dg wd wa (ht_ts (ht_ts (ht_tk (ht_w0, t0.2.1, 0) mk) lf 4) rf k) := by rw [hw1]; exact hD.up
      obtain ⟨h_dg, h_wd, h_wa⟩ := id hD1
      refine lv_iload hx hb d_D_join_37 (lv_at hl 4 rfl) ?_
      refine lv_iconst (v := 4) hx hb d_D_join_39 (by decide) ?_
      refine lv_icmp_ge (tgt := 59) hx hb d_D_join_40 (by decide) (fun c40 => ?_) (fun c40 => ?_)
      · exact absurd (by rw [ej] at c40; exact c40) (nI_ge (show k < 4 by omega) (by omega))
      · refine lv_aload_n hx hb d_D_join_43 rfl (lv_at hl 0 rfl) ?_
        refine lv_aload_n hx hb d_D_join_44 rfl (lv_at hl 2 rfl) ?_
        refine lv_iload hx hb d_D_join_45 (lv_at hl 4 rfl) ?_
        have hrd : ht_rd g w1 ra rf := by rw [hw1]; exact hD.rd hR
        refine ht_rdl hx hb HW hrd (by rw [ej]; exact vp_in_nI (by omega) (by omega)) d_D_join_47 ?_
        refine lv_topl (fun z1 ez1 => ?_)
        have ez1 : z1 = rf k := by rw [ez1, ej, nI_clamp (by omega)]
        refine lv_bipush (v := 8) hx hb d_D_join_48 (by decide) ?_
        refine ht_cv HW (va_runV (own := R_D) (C := R_D) (As := [.long z1, .int 8]) (rest := []) ⟨hx, hb, hml, hown, htb⟩ (c_D_takeLowest l g w1 hD1 z1 8 (Nat.le_refl 8) 8 rfl) (cwV 2 htb (ht_gv wd_251 wd_252 wd_253 wd_2 g_D_takeLowest) rfl rfl rfl (by decide +kernel) ⟨Nat.le_of_ble_eq_true rfl, Nat.le_of_ble_eq_true rfl⟩) (HW.preV h_dg rfl _) rfl rfl hl.1 rfl (lv_room (Nat.le_of_ble_eq_true rfl)) d_D_join_50 ⟨Nat.le_of_ble_eq_true rfl, Nat.le_of_ble_eq_true rfl⟩) (fun u2 H locs pw HW => ?_)
        obtain ⟨j2, ej2⟩ : ∃ y : Int32, y = j + 1 := ⟨_, rfl⟩
        refine lv_iinc (v := j2) (lv' := [(5, .int j2), (0, .ref dg), (2, .ref la), (3, .ref ra), (4, .ref ia)]) hx hb d_D_join_53 hl (k := 4) rfl (by rw [ej2]; rfl) (by decide) rfl (fun ls hl => ?_)
        refine lv_goto (tgt := 37) hx hb d_D_join_56 (by decide) ?_
        refine ih (k + 1) (by omega) _ _ _ j2 (by rw [ej2, ej, nI_1]) (HW.to ?_) (lv_sub hl [1, 2, 3, 4, 0] rfl)
        rw [pw, hw1, hD.dw, ez1]
        rfl
  have loop1 : ∀ (n k : Nat), k + n = 4 → ∀ (H : Heap) (locs : List Loc) (ls : Array Slot) (j : Int32), j = nI k → ht_I g s (ht_dw g w dg wd wa (ht_ts (ht_tk (ht_w0, t0.2.1, 0) mk) lf k)) H locs → lv_has ls 6 [(0, .ref dg), (2, .ref la), (3, .ref ra), (4, .ref ia), (5, .int j)] → W p l e (headSpec ws_D_join ({ frames := 4, cells := 0, slots := 0, locals := 120 } : Room)).room s m ([.ref dg, .int mk, .ref la, .ref ra, .ref ia] : List Value).toArray below meth c H locs 0 0 (MQ below (ht_Qv g (fun u => u = ht_up (ht_dw g w dg wd wa (ht_jt t0.2.1 mk lf rf)) ia (ht_al g 4 (ht_kf (ht_kn (ht_jt t0.2.1 mk lf rf).1))))) ([.ref dg, .int mk, .ref la, .ref ra, .ref ia] : List Value).toArray s 0 0 (ht_A g)) (F0 m 12 ls []) := by
    intro n
    induction n with
    | zero =>
      intro k hk H locs ls j ej HW hl
      obtain ⟨w1, hw1⟩ : ∃ z, z = ht_dw g w dg wd wa (ht_ts (ht_tk (ht_w0, t0.2.1, 0) mk) lf k) := ⟨_, rfl⟩
      rw [← hw1] at HW
      have hD1 : ht_Dg g w1 dg wd wa (ht_ts (ht_tk (ht_w0, t0.2.1, 0) mk) lf k) := by rw [hw1]; exact hD.up
      obtain ⟨h_dg, h_wd, h_wa⟩ := id hD1
      have hk4 : k = 4 := by omega
      subst hk4
      refine lv_iload hx hb d_D_join_12 (lv_at hl 4 rfl) ?_
      refine lv_iconst (v := 4) hx hb d_D_join_14 (by decide) ?_
      refine lv_icmp_ge (tgt := 34) hx hb d_D_join_15 (by decide) (fun c15 => ?_) (fun c15 => ?_)
      · refine lv_iconst (v := 0) hx hb d_D_join_34 (by decide) ?_
        refine lv_istore (lv' := [(5, .int 0), (0, .ref dg), (2, .ref la), (3, .ref ra), (4, .ref ia)]) hx hb d_D_join_35 hl (by decide) rfl (fun ls hl => ?_)
        exact loop2 4 0 rfl _ _ _ 0 rfl (HW.to hw1) (lv_sub hl [1, 2, 3, 4, 0] rfl)
      · exact absurd (by rw [ej]; exact nI_le (Nat.le_refl 4) (by omega)) c15
    | succ n ih =>
      intro k hk H locs ls j ej HW hl
      obtain ⟨w1, hw1⟩ : ∃ z, z = ht_dw g w dg wd wa (ht_ts (ht_tk (ht_w0, t0.2.1, 0) mk) lf k) := ⟨_, rfl⟩
      rw [← hw1] at HW
      have hD1 : ht_Dg g w1 dg wd wa (ht_ts (ht_tk (ht_w0, t0.2.1, 0) mk) lf k) := by rw [hw1]; exact hD.up
      obtain ⟨h_dg, h_wd, h_wa⟩ := id hD1
      refine lv_iload hx hb d_D_join_12 (lv_at hl 4 rfl) ?_
      refine lv_iconst (v := 4) hx hb d_D_join_14 (by decide) ?_
      refine lv_icmp_ge (tgt := 34) hx hb d_D_join_15 (by decide) (fun c15 => ?_) (fun c15 => ?_)
      · exact absurd (by rw [ej] at c15; exact c15) (nI_ge (show k < 4 by omega) (by omega))
      · refine lv_aload_n hx hb d_D_join_18 rfl (lv_at hl 0 rfl) ?_
        refine lv_aload_n hx hb d_D_join_19 rfl (lv_at hl 1 rfl) ?_
        refine lv_iload hx hb d_D_join_20 (lv_at hl 4 rfl) ?_
        have hrd : ht_rd g w1 la lf := by rw [hw1]; exact hD.rd hL
        refine ht_rdl hx hb HW hrd (by rw [ej]; exact vp_in_nI (by omega) (by omega)) d_D_join_22 ?_
        refine lv_topl (fun z1 ez1 => ?_)
        have ez1 : z1 = lf k := by rw [ez1, ej, nI_clamp (by omega)]
        refine lv_bipush (v := 8) hx hb d_D_join_23 (by decide) ?_
        refine ht_cv HW (va_runV (own := R_D) (C := R_D) (As := [.long z1, .int 8]) (rest := []) ⟨hx, hb, hml, hown, htb⟩ (c_D_takeLowest l g w1 hD1 z1 8 (Nat.le_refl 8) 8 rfl) (cwV 2 htb (ht_gv wd_251 wd_252 wd_253 wd_2 g_D_takeLowest) rfl rfl rfl (by decide +kernel) ⟨Nat.le_of_ble_eq_true rfl, Nat.le_of_ble_eq_true rfl⟩) (HW.preV h_dg rfl _) rfl rfl hl.1 rfl (lv_room (Nat.le_of_ble_eq_true rfl)) d_D_join_25 ⟨Nat.le_of_ble_eq_true rfl, Nat.le_of_ble_eq_true rfl⟩) (fun u2 H locs pw HW => ?_)
        obtain ⟨j2, ej2⟩ : ∃ y : Int32, y = j + 1 := ⟨_, rfl⟩
        refine lv_iinc (v := j2) (lv' := [(5, .int j2), (0, .ref dg), (2, .ref la), (3, .ref ra), (4, .ref ia)]) hx hb d_D_join_28 hl (k := 4) rfl (by rw [ej2]; rfl) (by decide) rfl (fun ls hl => ?_)
        refine lv_goto (tgt := 12) hx hb d_D_join_31 (by decide) ?_
        refine ih (k + 1) (by omega) _ _ _ j2 (by rw [ej2, ej, nI_1]) (HW.to ?_) (lv_sub hl [1, 2, 3, 4, 0] rfl)
        rw [pw, hw1, hD.dw, ez1]
        rfl
  obtain ⟨h_dg, h_wd, h_wa⟩ := id hD
  refine lv_aload_n hx hb d_D_join_0 rfl (lv_at hl 0 rfl) ?_
  refine ht_cv HW (va_runV (own := R_D) (C := R_D) (As := []) (rest := []) ⟨hx, hb, hml, hown, htb⟩ (c_D_begin l g w hD) (cwV 0 htb (ht_gv wd_225 wd_226 wd_227 wd_2 g_D_begin) rfl rfl rfl (by decide +kernel) ⟨Nat.le_of_ble_eq_true rfl, Nat.le_of_ble_eq_true rfl⟩) (HW.preV h_dg rfl _) rfl rfl hl.1 rfl (lv_room (Nat.le_of_ble_eq_true rfl)) d_D_join_1 ⟨Nat.le_of_ble_eq_true rfl, Nat.le_of_ble_eq_true rfl⟩) (fun u1 H locs pw1 HW => ?_)
  have hD1 : ht_Dg g u1 dg wd wa (ht_w0, t0.2.1, 0) := by rw [pw1]; exact hD.up
  obtain ⟨h_dg, h_wd, h_wa⟩ := id hD1
  refine lv_aload_n hx hb d_D_join_4 rfl (lv_at hl 0 rfl) ?_
  refine lv_iload_n hx hb d_D_join_5 rfl (lv_at hl 1 rfl) ?_
  refine ht_cv HW (va_runV (own := R_D) (C := R_D) (As := [.int mk]) (rest := []) ⟨hx, hb, hml, hown, htb⟩ (c_D_take l g u1 hD1 mk) (cwV 1 htb (ht_gv wd_234 wd_235 wd_236 wd_2 g_D_take) rfl rfl rfl (by decide +kernel) ⟨Nat.le_of_ble_eq_true rfl, Nat.le_of_ble_eq_true rfl⟩) (HW.preV h_dg rfl _) rfl rfl hl.1 rfl (lv_room (Nat.le_of_ble_eq_true rfl)) d_D_join_6 ⟨Nat.le_of_ble_eq_true rfl, Nat.le_of_ble_eq_true rfl⟩) (fun u2 H locs pw2 HW => ?_)
  refine lv_iconst (v := 0) hx hb d_D_join_9 (by decide) ?_
  refine lv_istore (lv' := [(5, .int 0), (0, .ref dg), (1, .int mk), (2, .ref la), (3, .ref ra), (4, .ref ia)]) hx hb d_D_join_10 hl (by decide) rfl (fun ls hl => ?_)
  exact loop1 4 0 rfl _ _ _ 0 rfl (HW.to (by rw [pw2, pw1, hD.dw]; rfl)) (lv_sub hl [1, 3, 4, 5, 0] rfl)
end
section
/-- z zeros stand ahead in x -/
def ht_lz (x : Int32) (z : Nat) : Prop := z ≤ 32 ∧ (∀ j, j < z → x.toBitVec.getMsbD j = false) ∧ (z < 32 → x.toBitVec.getMsbD z = true)
theorem ht_lz_of {n z : Nat} (hn : n < 2 ^ 32) (hz : z < 32) (h1 : 2 ^ (31 - z) ≤ n) (h2 : n < 2 ^ (32 - z)) : ht_lz (nI n) z := by
  have hb : ∀ j, j < 32 → (nI n).toBitVec.getMsbD j = n.testBit (31 - j) := by
    intro j hj
    rw [BitVec.getMsbD_eq_getLsbD, BitVec.getLsbD, pk_tn hn]
    simp only [hj, decide_true, Bool.true_and]
  refine ⟨by omega, fun j hj => ?_, fun _ => ?_⟩
  · rw [hb j (by omega)]
    exact Nat.testBit_lt_two_pow (Nat.lt_of_lt_of_le h2 (Nat.pow_le_pow_right (by decide) (by omega)))
  · rw [hb z hz]
    have e : 32 - z = (31 - z) + 1 := by omega
    rw [e] at h2
    have h3 : n / 2 ^ (31 - z) = 1 := by
      have h4 : 2 ^ (31 - z + 1) = 2 ^ (31 - z) * 2 := by rw [Nat.pow_succ]
      have hp : 0 < 2 ^ (31 - z) := Nat.two_pow_pos _
      refine Nat.div_eq_of_lt_le (by omega) (by omega)
    rw [Nat.testBit_eq_decide_div_mod_eq, h3]
    rfl
theorem ht_lz_0 : ht_lz 0 32 := by
  refine ⟨Nat.le_refl _, fun j hj => ?_, fun h => absurd h (by decide)⟩
  simp
theorem ht_lz_neg {x : Int32} (h : x < 0) : ht_lz x 0 := by
  refine ⟨Nat.zero_le _, fun j hj => absurd hj (Nat.not_lt_zero j), fun _ => ?_⟩
  have h2 : x.toBitVec.slt 0#32 = true := Int32.lt_iff_toBitVec_slt.mp h
  have h3 : x.toBitVec.msb = true := by
    rw [← BitVec.slt_zero_eq_msb]
    exact h2
  exact h3
theorem ht_ltn {a b : Nat} (h : a < 2 ^ 31 ∧ b < 2 ^ 31) (c : nI a < nI b) : a < b := (nI_ltI h.1 h.2).mp c
theorem ht_gen {a b : Nat} (h : a < 2 ^ 31 ∧ b < 2 ^ 31) (c : ¬ nI a < nI b) : b ≤ a := Nat.not_lt.mp (fun q => c ((nI_ltI h.1 h.2).mpr q))
theorem ht_sbn {s k : Nat} (h : s + k ≤ 31) : nI (31 - s) + (-nI k) = nI (31 - (s + k)) := by
  rw [← Int32.sub_eq_add_neg, pk_sub (by omega)]
  congr 1
  omega
theorem ht_dp {a k : Nat} (h : 2 ^ k ≤ a) : 0 < a / 2 ^ k := Nat.div_pos h (Nat.two_pow_pos k)
theorem wb_of32' (x : Int32) : ∃ N, N < 2 ^ 32 ∧ x = nI N := ⟨x.toBitVec.toNat, x.toBitVec.isLt, by
  apply Int32.toBitVec_inj.mp
  show _ = BitVec.ofNat 32 _
  simp⟩
theorem ht_neg {x : Int32} (h : ¬ 0 < x) (h2 : ¬ x = 0) : x < 0 := by
  rcases Int32.lt_or_le x 0 with q | q
  · exact q
  · exact absurd (Int32.le_antisymm (Int32.not_lt.mp h) q) h2
theorem ht_pos1 {x : Int32} {N : Nat} (hN32 : N < 2 ^ 32) (hN : x = nI N) (h : 0 < x) : N < 2 ^ 31 := by
  obtain ⟨j, hj, e⟩ := nI_of (x := x) (fun q => Int32.lt_irrefl (Int32.lt_trans h q))
  have : N = j := by
    have h1 := pk_tn hN32
    have h2 := pk_tn (show j < 2 ^ 32 by omega)
    rw [← hN, e, h2] at h1
    omega
  omega
theorem ht_pos0 {x : Int32} {N : Nat} (hN32 : N < 2 ^ 32) (hN : x = nI N) (h : 0 < x) : 0 < N := by
  rcases Nat.eq_zero_or_pos N with q | q
  · subst q
    rw [hN] at h
    exact absurd h (by decide)
  · exact q
set_option maxHeartbeats 4000000 in
set_option maxRecDepth 100000 in
theorem c_JI_numberOfLeadingZeros (l : Launch) (g : ht_G) (w : ht_W) (x : Int32) : Met l y_JI_numberOfLeadingZeros ws_JI_numberOfLeadingZeros ({ frames := 0, cells := 0, slots := 0, locals := 0 } : Room) (va_Pc [.int x] (ht_WS g w)) (ht_Qi g (fun r u => (∃ z, r = nI z ∧ ht_lz x z) ∧ w = u)) 0 0 (ht_A g) := by
  refine Met.ofW (cc := b_JI_numberOfLeadingZeros) (maxL := 2) (ret := (some .int)) (by decide) rfl ?_
  intro p e s m args below meth c s₁ BB hml hv
  obtain ⟨rfl, HW⟩ := hv
  have HW := ht_I.start HW
  have hx := BB.exec
  have hb := BB.bytes
  have hr := BB.returns
  have hts := atoms_spec (ws := ws_JI_numberOfLeadingZeros) BB.pre
  have htb : ∀ w ∈ bg, w.before _ s = true := fun w h => hts w (List.mem_cons_of_mem _ h)
  have hown : s.vm.findClass R_JI = some m.cls := findClass_of_methodNamed BB.named
  have hlocks := BB.notSynchronized
  have hl := lv_entry ([.int x]) (n := 2) (Nat.le_of_ble_eq_true rfl)
  rw [lg_entry_eq]
  generalize (lg_sl ([.int x]) ++ List.replicate (2 - (lg_sl ([.int x])).length) Slot.unset).toArray = ls at hl ⊢
  have hl : lv_has ls 2 [(0, .int x)] := hl
  have hN : ∃ N, N < 2 ^ 32 ∧ x = nI N := wb_of32' x
  obtain ⟨N, hN32, hN⟩ := hN
  have st73 : ∀ (H : Heap) (locs : List Loc) (ls : Array Slot) (i n1 : Int32) (a s1 : Nat), i = nI a → n1 = nI (31 - s1) → a = N / 2 ^ s1 → 0 < a → a < 2 ^ 2 → s1 + 2 ≤ 32 → ht_I g s w H locs → lv_has ls 2 [(0, .int i), (1, .int n1)] → W p l e (headSpec ws_JI_numberOfLeadingZeros ({ frames := 0, cells := 0, slots := 0, locals := 0 } : Room)).room s m ([.int x] : List Value).toArray below meth c H locs 0 0 (MQ below (ht_Qi g (fun r u => (∃ z, r = nI z ∧ ht_lz x z) ∧ w = u)) ([.int x] : List Value).toArray s 0 0 (ht_A g)) (F0 m 73 ls []) := by
    intro H locs ls i n1 a s1 ei en ea ha0 hab hs HW hl
    refine lv_iload_n hx hb d_JI_numberOfLeadingZeros_73 rfl (lv_at hl 1 rfl) ?_
    refine lv_iload_n hx hb d_JI_numberOfLeadingZeros_74 rfl (lv_at hl 0 rfl) ?_
    refine lv_iconst (v := 1) hx hb d_JI_numberOfLeadingZeros_75 (by decide) ?_
    refine lv_iushr (v := ht_us i (1 : Int32)) hx hb d_JI_numberOfLeadingZeros_76 rfl ?_
    refine lv_isub hx hb d_JI_numberOfLeadingZeros_77 ?_
    refine ht_iret hx hb hr hlocks HW ⟨?_, rfl⟩ d_JI_numberOfLeadingZeros_78
    have hus : ht_us i 1 = nI (a / 2 ^ 1) := by rw [ei]; exact pk_ushrN (by omega) _ 1 (by decide)
    rw [hus, en]
    have hdm := Nat.div_add_mod N (2 ^ s1)
    have hml2 := Nat.mod_lt N (Nat.two_pow_pos s1)
    rw [← ea] at hdm
    rcases (show a = 1 ∨ a = 2 ∨ a = 3 by omega) with e1 | e1 | e1
    · subst e1
      refine ⟨31 - s1, by rw [show 1 / 2 ^ 1 = 0 from rfl, nI_0, Int32.sub_zero], ?_⟩
      rw [hN]
      refine ht_lz_of hN32 (by omega) ?_ ?_
      · rw [show 31 - (31 - s1) = s1 by omega]; omega
      · rw [show 32 - (31 - s1) = s1 + 1 by omega, Nat.pow_succ]; omega
    · subst e1
      refine ⟨30 - s1, by rw [show 2 / 2 ^ 1 = 1 from rfl, pk_sub (by omega)]; congr 1; omega, ?_⟩
      rw [hN]
      refine ht_lz_of hN32 (by omega) ?_ ?_
      · rw [show 31 - (30 - s1) = s1 + 1 by omega, Nat.pow_succ]; omega
      · rw [show 32 - (30 - s1) = s1 + 2 by omega, Nat.pow_add]; omega
    · subst e1
      refine ⟨30 - s1, by rw [show 3 / 2 ^ 1 = 1 from rfl, pk_sub (by omega)]; congr 1; omega, ?_⟩
      rw [hN]
      refine ht_lz_of hN32 (by omega) ?_ ?_
      · rw [show 31 - (30 - s1) = s1 + 1 by omega, Nat.pow_succ]; omega
      · rw [show 32 - (30 - s1) = s1 + 2 by omega, Nat.pow_add]; omega
  have st61 : ∀ (H : Heap) (locs : List Loc) (ls : Array Slot) (i n1 : Int32) (a s1 : Nat), i = nI a → n1 = nI (31 - s1) → a = N / 2 ^ s1 → 0 < a → a < 2 ^ 4 → s1 + 4 ≤ 32 → ht_I g s w H locs → lv_has ls 2 [(0, .int i), (1, .int n1)] → W p l e (headSpec ws_JI_numberOfLeadingZeros ({ frames := 0, cells := 0, slots := 0, locals := 0 } : Room)).room s m ([.int x] : List Value).toArray below meth c H locs 0 0 (MQ below (ht_Qi g (fun r u => (∃ z, r = nI z ∧ ht_lz x z) ∧ w = u)) ([.int x] : List Value).toArray s 0 0 (ht_A g)) (F0 m 61 ls []) := by
    intro H locs ls i n1 a s1 ei en ea ha0 hab hs HW hl
    refine lv_iload_n hx hb d_JI_numberOfLeadingZeros_61 rfl (lv_at hl 0 rfl) ?_
    refine lv_iconst (v := 4) hx hb d_JI_numberOfLeadingZeros_62 (by decide) ?_
    refine lv_icmp_lt (tgt := 73) hx hb d_JI_numberOfLeadingZeros_63 (by decide) (fun c63 => ?_) (fun c63 => ?_)
    · exact st73 _ _ _ _ _ a s1 ei en ea ha0 (by rw [ei] at c63; exact ht_ltn (b := 4) (by omega) c63) (by omega) HW (lv_sub hl [0, 1] rfl)
    · obtain ⟨z1, ez1⟩ : ∃ y : Int32, y = n1 + (-2) := ⟨_, rfl⟩
      refine lv_iinc (v := z1) (lv' := [(1, .int z1), (0, .int i)]) hx hb d_JI_numberOfLeadingZeros_66 hl (k := 1) rfl (by rw [ez1]; rfl) (by decide) rfl (fun ls hl => ?_)
      refine lv_iload_n hx hb d_JI_numberOfLeadingZeros_69 rfl (lv_at hl 1 rfl) ?_
      refine lv_iconst (v := 2) hx hb d_JI_numberOfLeadingZeros_70 (by decide) ?_
      refine lv_iushr (v := ht_us i (2 : Int32)) hx hb d_JI_numberOfLeadingZeros_71 rfl ?_
      refine lv_topi (fun z2 ez2 => ?_)
      refine lv_istore_n (lv' := [(0, .int z2), (1, .int z1)]) hx hb d_JI_numberOfLeadingZeros_72 rfl hl (by decide) rfl (fun ls hl => ?_)
      refine st73 _ _ _ _ _ (a / 2 ^ 2) (s1 + 2) (by rw [ez2, ei]; exact pk_ushrN (by omega) _ 2 (by decide)) (by rw [ez1, en]; exact ht_sbn (k := 2) (by omega)) (by rw [ea, Nat.div_div_eq_div_mul, ← Nat.pow_add]) (ht_dp (by rw [ei] at c63; exact ht_gen (b := 4) (by omega) c63)) (by omega) (by omega) HW (lv_sub hl [0, 1] rfl)
  have st48 : ∀ (H : Heap) (locs : List Loc) (ls : Array Slot) (i n1 : Int32) (a s1 : Nat), i = nI a → n1 = nI (31 - s1) → a = N / 2 ^ s1 → 0 < a → a < 2 ^ 8 → s1 + 8 ≤ 32 → ht_I g s w H locs → lv_has ls 2 [(0, .int i), (1, .int n1)] → W p l e (headSpec ws_JI_numberOfLeadingZeros ({ frames := 0, cells := 0, slots := 0, locals := 0 } : Room)).room s m ([.int x] : List Value).toArray below meth c H locs 0 0 (MQ below (ht_Qi g (fun r u => (∃ z, r = nI z ∧ ht_lz x z) ∧ w = u)) ([.int x] : List Value).toArray s 0 0 (ht_A g)) (F0 m 48 ls []) := by
    intro H locs ls i n1 a s1 ei en ea ha0 hab hs HW hl
    refine lv_iload_n hx hb d_JI_numberOfLeadingZeros_48 rfl (lv_at hl 0 rfl) ?_
    refine lv_bipush (v := 16) hx hb d_JI_numberOfLeadingZeros_49 (by decide) ?_
    refine lv_icmp_lt (tgt := 61) hx hb d_JI_numberOfLeadingZeros_51 (by decide) (fun c51 => ?_) (fun c51 => ?_)
    · exact st61 _ _ _ _ _ a s1 ei en ea ha0 (by rw [ei] at c51; exact ht_ltn (b := 16) (by omega) c51) (by omega) HW (lv_sub hl [0, 1] rfl)
    · obtain ⟨z1, ez1⟩ : ∃ y : Int32, y = n1 + (-4) := ⟨_, rfl⟩
      refine lv_iinc (v := z1) (lv' := [(1, .int z1), (0, .int i)]) hx hb d_JI_numberOfLeadingZeros_54 hl (k := 1) rfl (by rw [ez1]; rfl) (by decide) rfl (fun ls hl => ?_)
      refine lv_iload_n hx hb d_JI_numberOfLeadingZeros_57 rfl (lv_at hl 1 rfl) ?_
      refine lv_iconst (v := 4) hx hb d_JI_numberOfLeadingZeros_58 (by decide) ?_
      refine lv_iushr (v := ht_us i (4 : Int32)) hx hb d_JI_numberOfLeadingZeros_59 rfl ?_
      refine lv_topi (fun z2 ez2 => ?_)
      refine lv_istore_n (lv' := [(0, .int z2), (1, .int z1)]) hx hb d_JI_numberOfLeadingZeros_60 rfl hl (by decide) rfl (fun ls hl => ?_)
      refine st61 _ _ _ _ _ (a / 2 ^ 4) (s1 + 4) (by rw [ez2, ei]; exact pk_ushrN (by omega) _ 4 (by decide)) (by rw [ez1, en]; exact ht_sbn (k := 4) (by omega)) (by rw [ea, Nat.div_div_eq_div_mul, ← Nat.pow_add]) (ht_dp (by rw [ei] at c51; exact ht_gen (b := 16) (by omega) c51)) (by omega) (by omega) HW (lv_sub hl [0, 1] rfl)
  have st33 : ∀ (H : Heap) (locs : List Loc) (ls : Array Slot) (i n1 : Int32) (a s1 : Nat), i = nI a → n1 = nI (31 - s1) → a = N / 2 ^ s1 → 0 < a → a < 2 ^ 16 → s1 + 16 ≤ 32 → ht_I g s w H locs → lv_has ls 2 [(0, .int i), (1, .int n1)] → W p l e (headSpec ws_JI_numberOfLeadingZeros ({ frames := 0, cells := 0, slots := 0, locals := 0 } : Room)).room s m ([.int x] : List Value).toArray below meth c H locs 0 0 (MQ below (ht_Qi g (fun r u => (∃ z, r = nI z ∧ ht_lz x z) ∧ w = u)) ([.int x] : List Value).toArray s 0 0 (ht_A g)) (F0 m 33 ls []) := by
    intro H locs ls i n1 a s1 ei en ea ha0 hab hs HW hl
    refine lv_iload_n hx hb d_JI_numberOfLeadingZeros_33 rfl (lv_at hl 0 rfl) ?_
    refine lv_sipush (v := 256) hx hb d_JI_numberOfLeadingZeros_34 (by decide) ?_
    refine lv_icmp_lt (tgt := 48) hx hb d_JI_numberOfLeadingZeros_37 (by decide) (fun c37 => ?_) (fun c37 => ?_)
    · exact st48 _ _ _ _ _ a s1 ei en ea ha0 (by rw [ei] at c37; exact ht_ltn (b := 256) (by omega) c37) (by omega) HW (lv_sub hl [0, 1] rfl)
    · obtain ⟨z1, ez1⟩ : ∃ y : Int32, y = n1 + (-8) := ⟨_, rfl⟩
      refine lv_iinc (v := z1) (lv' := [(1, .int z1), (0, .int i)]) hx hb d_JI_numberOfLeadingZeros_40 hl (k := 1) rfl (by rw [ez1]; rfl) (by decide) rfl (fun ls hl => ?_)
      refine lv_iload_n hx hb d_JI_numberOfLeadingZeros_43 rfl (lv_at hl 1 rfl) ?_
      refine lv_bipush (v := 8) hx hb d_JI_numberOfLeadingZeros_44 (by decide) ?_
      refine lv_iushr (v := ht_us i (8 : Int32)) hx hb d_JI_numberOfLeadingZeros_46 rfl ?_
      refine lv_topi (fun z2 ez2 => ?_)
      refine lv_istore_n (lv' := [(0, .int z2), (1, .int z1)]) hx hb d_JI_numberOfLeadingZeros_47 rfl hl (by decide) rfl (fun ls hl => ?_)
      refine st48 _ _ _ _ _ (a / 2 ^ 8) (s1 + 8) (by rw [ez2, ei]; exact pk_ushrN (by omega) _ 8 (by decide)) (by rw [ez1, en]; exact ht_sbn (k := 8) (by omega)) (by rw [ea, Nat.div_div_eq_div_mul, ← Nat.pow_add]) (ht_dp (by rw [ei] at c37; exact ht_gen (b := 256) (by omega) c37)) (by omega) (by omega) HW (lv_sub hl [0, 1] rfl)
  have st18 : ∀ (H : Heap) (locs : List Loc) (ls : Array Slot) (i n1 : Int32) (a s1 : Nat), i = nI a → n1 = nI (31 - s1) → a = N / 2 ^ s1 → 0 < a → a < 2 ^ 31 → s1 + 32 ≤ 32 → ht_I g s w H locs → lv_has ls 2 [(0, .int i), (1, .int n1)] → W p l e (headSpec ws_JI_numberOfLeadingZeros ({ frames := 0, cells := 0, slots := 0, locals := 0 } : Room)).room s m ([.int x] : List Value).toArray below meth c H locs 0 0 (MQ below (ht_Qi g (fun r u => (∃ z, r = nI z ∧ ht_lz x z) ∧ w = u)) ([.int x] : List Value).toArray s 0 0 (ht_A g)) (F0 m 18 ls []) := by
    intro H locs ls i n1 a s1 ei en ea ha0 hab hs HW hl
    refine lv_iload_n hx hb d_JI_numberOfLeadingZeros_18 rfl (lv_at hl 0 rfl) ?_
    refine lv_ldcw (v := 65536) hx hb hown (htb _ wd_105) d_JI_numberOfLeadingZeros_19 ?_
    refine lv_icmp_lt (tgt := 33) hx hb d_JI_numberOfLeadingZeros_22 (by decide) (fun c22 => ?_) (fun c22 => ?_)
    · exact st33 _ _ _ _ _ a s1 ei en ea ha0 (by rw [ei] at c22; exact ht_ltn (b := 65536) (by omega) c22) (by omega) HW (lv_sub hl [0, 1] rfl)
    · obtain ⟨z1, ez1⟩ : ∃ y : Int32, y = n1 + (-16) := ⟨_, rfl⟩
      refine lv_iinc (v := z1) (lv' := [(1, .int z1), (0, .int i)]) hx hb d_JI_numberOfLeadingZeros_25 hl (k := 1) rfl (by rw [ez1]; rfl) (by decide) rfl (fun ls hl => ?_)
      refine lv_iload_n hx hb d_JI_numberOfLeadingZeros_28 rfl (lv_at hl 1 rfl) ?_
      refine lv_bipush (v := 16) hx hb d_JI_numberOfLeadingZeros_29 (by decide) ?_
      refine lv_iushr (v := ht_us i (16 : Int32)) hx hb d_JI_numberOfLeadingZeros_31 rfl ?_
      refine lv_topi (fun z2 ez2 => ?_)
      refine lv_istore_n (lv' := [(0, .int z2), (1, .int z1)]) hx hb d_JI_numberOfLeadingZeros_32 rfl hl (by decide) rfl (fun ls hl => ?_)
      refine st33 _ _ _ _ _ (a / 2 ^ 16) (s1 + 16) (by rw [ez2, ei]; exact pk_ushrN (by omega) _ 16 (by decide)) (by rw [ez1, en]; exact ht_sbn (k := 16) (by omega)) (by rw [ea, Nat.div_div_eq_div_mul, ← Nat.pow_add]) (ht_dp (by rw [ei] at c22; exact ht_gen (b := 65536) (by omega) c22)) (by omega) (by omega) HW (lv_sub hl [0, 1] rfl)
  refine lv_iload_n hx hb d_JI_numberOfLeadingZeros_0 rfl (lv_at hl 0 rfl) ?_
  refine lv_if_gt (tgt := 15) hx hb d_JI_numberOfLeadingZeros_1 (by decide) (fun c1 => ?_) (fun c1 => ?_)
  · refine lv_bipush (v := 31) hx hb d_JI_numberOfLeadingZeros_15 (by decide) ?_
    refine lv_istore_n (lv' := [(1, .int 31), (0, .int x)]) hx hb d_JI_numberOfLeadingZeros_17 rfl hl (by decide) rfl (fun ls hl => ?_)
    exact st18 _ _ _ _ _ N 0 hN rfl (by simp) (ht_pos0 hN32 hN c1) (ht_pos1 hN32 hN c1) (by omega) HW (lv_sub hl [1, 0] rfl)
  · refine lv_iload_n hx hb d_JI_numberOfLeadingZeros_4 rfl (lv_at hl 0 rfl) ?_
    refine lv_if_ne (tgt := 13) hx hb d_JI_numberOfLeadingZeros_5 (by decide) (fun c5 => ?_) (fun c5 => ?_)
    · refine lv_iconst (v := 0) hx hb d_JI_numberOfLeadingZeros_13 (by decide) ?_
      exact ht_iret hx hb hr hlocks HW ⟨⟨0, nI_0.symm, ht_lz_neg (ht_neg c1 c5)⟩, rfl⟩ d_JI_numberOfLeadingZeros_14
    · refine lv_bipush (v := 32) hx hb d_JI_numberOfLeadingZeros_8 (by decide) ?_
      refine lv_goto (tgt := 14) hx hb d_JI_numberOfLeadingZeros_10 (by decide) ?_
      exact ht_iret hx hb hr hlocks HW ⟨⟨32, rfl, (c5 : x = 0) ▸ ht_lz_0⟩, rfl⟩ d_JI_numberOfLeadingZeros_14
end
section
def ht_hi (x : Int64) : Int32 := ((x.toUInt64 >>> ((32 : Int32).toInt64.toUInt64 &&& Int64.toUInt64 63)).toInt64).toInt32
theorem ht_sh32 (x : Int64) : (x.toUInt64 >>> ((32 : Int32).toInt64.toUInt64 &&& Int64.toUInt64 63)).toInt64.toBitVec = x.toBitVec >>> 32 := by
  have e : ((32 : Int32).toInt64.toUInt64 &&& Int64.toUInt64 63) = (32 : UInt64) := by decide
  rw [e]
  show (x.toUInt64 >>> (32 : UInt64)).toBitVec = _
  rw [UInt64.toBitVec_shiftRight]
  rfl
theorem ht_hi_bit (x : Int64) {j : Nat} (hj : j < 32) : (ht_hi x).toBitVec.getMsbD j = x.toBitVec.getMsbD j := by
  unfold ht_hi
  rw [Int64.toBitVec_toInt32, ht_sh32]
  rw [BitVec.getMsbD_eq_getLsbD, BitVec.getMsbD_eq_getLsbD, BitVec.getLsbD_signExtend]
  simp only [hj, decide_true, Bool.true_and, BitVec.getLsbD_ushiftRight, show j < 64 by omega]
  rw [if_pos (by omega)]
  simp only [show 32 - 1 - j < 32 by omega, decide_true, Bool.true_and]
  congr 1
  omega
theorem ht_lo_bit (x : Int64) {j : Nat} (hj : j < 32) : x.toInt32.toBitVec.getMsbD j = x.toBitVec.getMsbD (32 + j) := by
  rw [Int64.toBitVec_toInt32]
  rw [BitVec.getMsbD_eq_getLsbD, BitVec.getMsbD_eq_getLsbD, BitVec.getLsbD_signExtend]
  rw [if_pos (by omega)]
  simp only [hj, decide_true, Bool.true_and, show 32 - 1 - j < 32 by omega, show 32 + j < 64 by omega]
  congr 1
  omega
def ht_lzl (x : Int64) (z : Nat) : Prop := z ≤ 64 ∧ (∀ j, j < z → x.toBitVec.getMsbD j = false) ∧ (z < 64 → x.toBitVec.getMsbD z = true)
theorem ht_lzl_hi {x : Int64} {z : Nat} (h0 : ht_hi x ≠ 0) (h : ht_lz (ht_hi x) z) : ht_lzl x z := by
  have hz : z < 32 := by
    rcases Nat.lt_or_ge z 32 with q | q
    · exact q
    · exfalso
      apply h0
      apply Int32.toBitVec_inj.mp
      apply BitVec.eq_of_getMsbD_eq
      intro j hj
      rw [h.2.1 j (by omega)]
      simp
  refine ⟨by omega, fun j hj => ?_, fun _ => ?_⟩
  · rw [← ht_hi_bit x (by omega)]; exact h.2.1 j hj
  · rw [← ht_hi_bit x hz]; exact h.2.2 hz
theorem ht_lzl_lo {x : Int64} {z : Nat} (h0 : ht_hi x = 0) (h : ht_lz x.toInt32 z) : ht_lzl x (32 + z) := by
  have h1 : ∀ j, j < 32 → x.toBitVec.getMsbD j = false := by
    intro j hj
    rw [← ht_hi_bit x hj, h0]
    simp
  refine ⟨by have := h.1; omega, fun j hj => ?_, fun hz => ?_⟩
  · rcases Nat.lt_or_ge j 32 with q | q
    · exact h1 j q
    · have := h.2.1 (j - 32) (by omega)
      rw [ht_lo_bit x (by have := h.1; omega), show 32 + (j - 32) = j by omega] at this
      exact this
  · rw [← ht_lo_bit x (by omega)]; exact h.2.2 (by omega)
set_option maxHeartbeats 4000000 in
set_option maxRecDepth 100000 in
theorem c_JL_numberOfLeadingZeros (l : Launch) (g : ht_G) (w : ht_W) (x : Int64) : Met l y_JL_numberOfLeadingZeros ws_JL_numberOfLeadingZeros ({ frames := 1, cells := 0, slots := 0, locals := 21 } : Room) (va_Pc [.long x] (ht_WS g w)) (ht_Qi g (fun r u => (∃ z, r = nI z ∧ ht_lzl x z) ∧ w = u)) 0 0 (ht_A g) := by
  refine Met.ofW (cc := b_JL_numberOfLeadingZeros) (maxL := 3) (ret := (some .int)) (by decide) rfl ?_
  intro p e s m args below meth c s₁ BB hml hv
  obtain ⟨rfl, HW⟩ := hv
  have HW := ht_I.start HW
  have hx := BB.exec
  have hb := BB.bytes
  have hr := BB.returns
  have hts := atoms_spec (ws := ws_JL_numberOfLeadingZeros) BB.pre
  have htb : ∀ w ∈ bg, w.before _ s = true := fun w h => hts w (List.mem_cons_of_mem _ h)
  have hown : s.vm.findClass R_JL = some m.cls := findClass_of_methodNamed BB.named
  have hlocks := BB.notSynchronized
  have hl := lv_entry ([.long x]) (n := 3) (Nat.le_of_ble_eq_true rfl)
  rw [lg_entry_eq]
  generalize (lg_sl ([.long x]) ++ List.replicate (3 - (lg_sl ([.long x])).length) Slot.unset).toArray = ls at hl ⊢
  have hl : lv_has ls 3 [(0, .long x)] := hl
  refine lv_lload_n hx hb d_JL_numberOfLeadingZeros_0 rfl (lv_at hl 0 rfl) ?_
  refine lv_bipush (v := 32) hx hb d_JL_numberOfLeadingZeros_1 (by decide) ?_
  refine lv_lushr (v := (x.toUInt64 >>> ((32 : Int32).toInt64.toUInt64 &&& Int64.toUInt64 63)).toInt64) hx hb d_JL_numberOfLeadingZeros_3 rfl ?_
  refine lv_l2i (v := ((x.toUInt64 >>> ((32 : Int32).toInt64.toUInt64 &&& Int64.toUInt64 63)).toInt64).toInt32) hx hb d_JL_numberOfLeadingZeros_4 rfl ?_
  refine lv_topi (fun hi ehi => ?_)
  refine lv_istore_n (lv' := [(2, .int hi), (0, .long x)]) hx hb d_JL_numberOfLeadingZeros_5 rfl hl (by decide) rfl (fun ls hl => ?_)
  refine lv_iload_n hx hb d_JL_numberOfLeadingZeros_6 rfl (lv_at hl 0 rfl) ?_
  refine lv_if_ne (tgt := 21) hx hb d_JL_numberOfLeadingZeros_7 (by decide) (fun c7 => ?_) (fun c7 => ?_)
  · refine lv_iload_n hx hb d_JL_numberOfLeadingZeros_21 rfl (lv_at hl 0 rfl) ?_
    refine ht_ci HW (va_runS (own := R_JL) (As := [.int hi]) (rest := []) ⟨hx, hb, hml, hown, htb⟩ (c_JI_numberOfLeadingZeros l g w hi) (va_cwS 1 htb (ht_gs wd_102 wd_103 wd_5 g_JI_numberOfLeadingZeros) rfl rfl rfl (by decide +kernel) ⟨Nat.le_of_ble_eq_true rfl, Nat.le_of_ble_eq_true rfl⟩) (HW.preS _) rfl rfl hl.1 rfl (lv_room (Nat.le_of_ble_eq_true rfl)) d_JL_numberOfLeadingZeros_22 ⟨Nat.le_of_ble_eq_true rfl, Nat.le_of_ble_eq_true rfl⟩) (fun q2 u1 H locs pz HW => ?_)
    obtain ⟨⟨z, erz, hz⟩, eww⟩ := pz
    subst eww
    exact ht_iret hx hb hr hlocks HW ⟨⟨z, erz, ht_lzl_hi (fun q => c7 (by rw [ehi]; exact q)) (by rw [ehi] at hz; exact hz)⟩, rfl⟩ d_JL_numberOfLeadingZeros_25
  · refine lv_bipush (v := 32) hx hb d_JL_numberOfLeadingZeros_10 (by decide) ?_
    refine lv_lload_n hx hb d_JL_numberOfLeadingZeros_12 rfl (lv_at hl 1 rfl) ?_
    refine lv_l2i (v := x.toInt32) hx hb d_JL_numberOfLeadingZeros_13 rfl ?_
    refine ht_ci HW (va_runS (own := R_JL) (As := [.int x.toInt32]) (rest := [.int 32]) ⟨hx, hb, hml, hown, htb⟩ (c_JI_numberOfLeadingZeros l g w x.toInt32) (va_cwS 1 htb (ht_gs wd_102 wd_103 wd_5 g_JI_numberOfLeadingZeros) rfl rfl rfl (by decide +kernel) ⟨Nat.le_of_ble_eq_true rfl, Nat.le_of_ble_eq_true rfl⟩) (HW.preS _) rfl rfl hl.1 rfl (lv_room (Nat.le_of_ble_eq_true rfl)) d_JL_numberOfLeadingZeros_14 ⟨Nat.le_of_ble_eq_true rfl, Nat.le_of_ble_eq_true rfl⟩) (fun q4 u3 H locs pz HW => ?_)
    obtain ⟨⟨z, erz, hz⟩, eww⟩ := pz
    subst eww
    refine lv_iadd hx hb d_JL_numberOfLeadingZeros_17 ?_
    refine lv_goto (tgt := 25) hx hb d_JL_numberOfLeadingZeros_18 (by decide) ?_
    exact ht_iret hx hb hr hlocks HW ⟨⟨32 + z, by rw [erz, ← nI_add]; rfl, ht_lzl_lo (Eq.trans ehi.symm c7) hz⟩, rfl⟩ d_JL_numberOfLeadingZeros_25
theorem ht_wc : ∀ k, k < 64 → ((nI k).toInt64 &&& 63) = lN k := by decide
theorem ht_ws : ∀ k, k < 64 → ((lN k).toBitVec.smod 64).toNat = k := by decide
theorem ht_lt0 (x : Int64) : x < 0 ↔ x.toBitVec.msb = true := by
  rw [Int64.lt_iff_toBitVec_slt]
  show x.toBitVec.slt 0#64 = true ↔ _
  rw [BitVec.slt_zero_eq_msb]
theorem ht_bitlt (x : Int64) {d : Nat} (hd : d < 256) : (x <<< ((nI d &&& 63).toInt64 &&& 63)) < 0 ↔ x.toBitVec.getMsbD (d % 64) = true := by
  rw [pk_andN (by omega) (m := 63) 6 (by decide), show 2 ^ 6 = 64 from rfl, ht_wc _ (Nat.mod_lt d (by decide)), ht_lt0]
  have e : (x <<< lN (d % 64)).toBitVec = x.toBitVec <<< (d % 64) := by
    show x.toBitVec <<< ((lN (d % 64)).toBitVec.smod 64) = _
    rw [BitVec.shiftLeft_eq', ht_ws _ (Nat.mod_lt d (by decide))]
  rw [e, BitVec.msb_shiftLeft]
theorem ht_ix6 {d : Nat} (hd : d < 256) : (nI d >>> ((6 : Int32) &&& 31)) &&& 3 = nI (d / 64) := by
  rw [pk_shrN (by omega) _ 6 (by decide), pk_andN (by omega) (m := 3) 2 (by decide)]
  congr 1
  omega
def ht_b1 (b : Bool) : Int32 := if b then 1 else 0
set_option maxHeartbeats 4000000 in
set_option maxRecDepth 100000 in
theorem c_X_isOne (l : Launch) (g : ht_G) (w : ht_W) {ka : Nat} {k : ht_K} (hk : ht_at w ka (ht_al g 4 (ht_kf k))) (d : Nat) (hd : d < 256) (dv : Int32) (ed : dv = nI d) : Met l y_X_isOne ws_X_isOne ({ frames := 0, cells := 0, slots := 0, locals := 0 } : Room) (va_Pc [.ref ka, .int dv] (ht_WS g w)) (ht_Qi g (fun r u => r = ht_b1 (ht_bit k d) ∧ w = u)) 0 0 (ht_A g) := by
  refine Met.ofW (cc := b_X_isOne) (maxL := 2) (ret := (some .boolean)) (by decide) rfl ?_
  intro p e s m args below meth c s₁ BB hml hv
  obtain ⟨rfl, HW⟩ := hv
  have HW := ht_I.start HW
  have hx := BB.exec
  have hb := BB.bytes
  have hr := BB.returns
  have hts := atoms_spec (ws := ws_X_isOne) BB.pre
  have htb : ∀ w ∈ bg, w.before _ s = true := fun w h => hts w (List.mem_cons_of_mem _ h)
  have hown : s.vm.findClass R_X = some m.cls := findClass_of_methodNamed BB.named
  have hlocks := BB.notSynchronized
  have hl := lv_entry ([.ref ka, .int dv]) (n := 2) (Nat.le_of_ble_eq_true rfl)
  rw [lg_entry_eq]
  generalize (lg_sl ([.ref ka, .int dv]) ++ List.replicate (2 - (lg_sl ([.ref ka, .int dv])).length) Slot.unset).toArray = ls at hl ⊢
  have hl : lv_has ls 2 [(0, .ref ka), (1, .int dv)] := hl
  refine lv_aload_n hx hb d_X_isOne_0 rfl (lv_at hl 0 rfl) ?_
  refine lv_iload_n hx hb d_X_isOne_1 rfl (lv_at hl 1 rfl) ?_
  refine lv_bipush (v := 6) hx hb d_X_isOne_2 (by decide) ?_
  refine lv_ishr hx hb d_X_isOne_4 ?_
  refine lv_iconst (v := 3) hx hb d_X_isOne_5 (by decide) ?_
  refine lv_iand hx hb d_X_isOne_6 ?_
  refine lv_topi (fun i1 ei1 => ?_)
  have hi1 : i1 = nI (d / 64) := by rw [ei1, ed]; exact ht_ix6 hd
  refine ht_lald hx hb HW hk (by rw [hi1]; exact vp_in_nI (by omega) (by omega)) d_X_isOne_7 ?_
  refine lv_topl (fun x1 ex1 => ?_)
  have ex1 : x1 = (ht_kf k) (d / 64) := by rw [ex1, hi1, nI_clamp (by omega)]
  refine lv_iload_n hx hb d_X_isOne_8 rfl (lv_at hl 1 rfl) ?_
  refine lv_bipush (v := 63) hx hb d_X_isOne_9 (by decide) ?_
  refine lv_iand hx hb d_X_isOne_11 ?_
  refine lv_lshl (v := x1 <<< ((dv &&& (63 : Int32)).toInt64 &&& 63)) hx hb d_X_isOne_12 rfl ?_
  refine lv_topl (fun x2 ex2 => ?_)
  have hbit : x2 < 0 ↔ ht_bit k d = true := by
    rw [ex2, ex1, ed]
    exact ht_bitlt _ hd
  refine lv_lconst (v := 0) hx hb d_X_isOne_13 (by decide) ?_
  refine W.lcmp hx hb d_X_isOne_14 ?_
  refine lv_if_ge (tgt := 22) hx hb d_X_isOne_15 (by decide) (fun c15 => ?_) (fun c15 => ?_)
  · have hf : ht_bit k d = false := by
      cases hq : ht_bit k d with
      | false => rfl
      | true => exact absurd (hbit.mpr hq) (Int64.not_lt.mpr ((lg_cmp_ge x2 0).mp c15))
    refine lv_iconst (v := 0) hx hb d_X_isOne_22 (by decide) ?_
    exact ht_zret hx hb hr hlocks HW (by rfl) ⟨by rw [hf]; rfl, rfl⟩ d_X_isOne_23
  · have hf : ht_bit k d = true := hbit.mp (Int64.not_le.mp (fun q => c15 ((lg_cmp_ge x2 0).mpr q)))
    refine lv_iconst (v := 1) hx hb d_X_isOne_18 (by decide) ?_
    refine lv_goto (tgt := 23) hx hb d_X_isOne_19 (by decide) ?_
    exact ht_zret hx hb hr hlocks HW (by rfl) ⟨by rw [hf]; rfl, rfl⟩ d_X_isOne_23
theorem ht_part_w {k1 k2 : ht_K} {i z : Nat} (hi : i < 4) (heq : ∀ j, j < i → ht_kf k1 j = ht_kf k2 j) (hne : ht_kf k1 i ^^^ ht_kf k2 i ≠ 0) (hz : ht_lzl (ht_kf k1 i ^^^ ht_kf k2 i) z) : ht_part k1 k2 = i * 64 + z := by
  have hz64 : z < 64 := by
    rcases Nat.lt_or_ge z 64 with q | q
    · exact q
    · exfalso
      apply hne
      apply Int64.toBitVec_inj.mp
      apply BitVec.eq_of_getMsbD_eq
      intro j hj
      rw [hz.2.1 j (by omega)]
      simp
  have hx : ∀ j, (ht_kf k1 i ^^^ ht_kf k2 i).toBitVec.getMsbD j = ((ht_kf k1 i).toBitVec.getMsbD j ^^ (ht_kf k2 i).toBitVec.getMsbD j) := by
    intro j
    rw [Int64.toBitVec_xor, BitVec.getMsbD_xor]
  refine ht_part_is (by omega) (fun d hd => ?_) (fun _ => ?_)
  · unfold ht_bit
    rcases Nat.lt_or_ge (d / 64) i with q | q
    · rw [heq _ q]
    · have e : d / 64 = i := by omega
      have := hz.2.1 (d % 64) (by omega)
      rw [hx] at this
      rw [e]
      cases ha : (ht_kf k1 i).toBitVec.getMsbD (d % 64) <;> cases hb : (ht_kf k2 i).toBitVec.getMsbD (d % 64) <;> simp_all
  · unfold ht_bit
    have e : (i * 64 + z) / 64 = i := by omega
    have e2 : (i * 64 + z) % 64 = z := by omega
    have := hz.2.2 hz64
    rw [hx] at this
    rw [e, e2]
    cases ha : (ht_kf k1 i).toBitVec.getMsbD z <;> cases hb : (ht_kf k2 i).toBitVec.getMsbD z <;> simp_all
theorem ht_x0 {x y : Int64} (h : x ^^^ y = 0) : x = y := by
  apply Int64.toBitVec_inj.mp
  have := congrArg Int64.toBitVec h
  rw [Int64.toBitVec_xor] at this
  exact BitVec.xor_eq_zero_iff.mp this
set_option maxHeartbeats 4000000 in
set_option maxRecDepth 100000 in
theorem c_X_partingLevel (l : Launch) (g : ht_G) (w : ht_W) {a1 a2 : Nat} {k1 k2 : ht_K} (h1 : ht_at w a1 (ht_al g 4 (ht_kf k1))) (h2 : ht_at w a2 (ht_al g 4 (ht_kf k2))) : Met l y_X_partingLevel ws_X_partingLevel ({ frames := 2, cells := 0, slots := 0, locals := 50 } : Room) (va_Pc [.ref a1, .ref a2] (ht_WS g w)) (ht_Qi g (fun r u => r = nI (ht_part k1 k2) ∧ w = u)) 0 0 (ht_A g) := by
  refine Met.ofW (cc := b_X_partingLevel) (maxL := 5) (ret := (some .int)) (by decide) rfl ?_
  intro p e s m args below meth c s₁ BB hml hv
  obtain ⟨rfl, HW⟩ := hv
  have HW := ht_I.start HW
  have hx := BB.exec
  have hb := BB.bytes
  have hr := BB.returns
  have hts := atoms_spec (ws := ws_X_partingLevel) BB.pre
  have htb : ∀ w ∈ bg, w.before _ s = true := fun w h => hts w (List.mem_cons_of_mem _ h)
  have hown : s.vm.findClass R_X = some m.cls := findClass_of_methodNamed BB.named
  have hlocks := BB.notSynchronized
  have hl := lv_entry ([.ref a1, .ref a2]) (n := 5) (Nat.le_of_ble_eq_true rfl)
  rw [lg_entry_eq]
  generalize (lg_sl ([.ref a1, .ref a2]) ++ List.replicate (5 - (lg_sl ([.ref a1, .ref a2])).length) Slot.unset).toArray = ls at hl ⊢
  have hl : lv_has ls 5 [(0, .ref a1), (1, .ref a2)] := hl
  have loop : ∀ (n i : Nat), i + n = 4 → (∀ j, j < i → ht_kf k1 j = ht_kf k2 j) → ∀ (H : Heap) (locs : List Loc) (ls : Array Slot) (j : Int32), j = nI i → ht_I g s w H locs → lv_has ls 5 [(0, .ref a1), (1, .ref a2), (2, .int j)] → W p l e (headSpec ws_X_partingLevel ({ frames := 2, cells := 0, slots := 0, locals := 50 } : Room)).room s m ([.ref a1, .ref a2] : List Value).toArray below meth c H locs 0 0 (MQ below (ht_Qi g (fun r u => r = nI (ht_part k1 k2) ∧ w = u)) ([.ref a1, .ref a2] : List Value).toArray s 0 0 (ht_A g)) (F0 m 2 ls []) := by
    intro n
    induction n with
    | zero =>
      intro i hi heq H locs ls j ej HW hl
      refine lv_iload_n hx hb d_X_partingLevel_2 rfl (lv_at hl 2 rfl) ?_
      refine lv_iconst (v := 4) hx hb d_X_partingLevel_3 (by decide) ?_
      refine lv_icmp_ge (tgt := 37) hx hb d_X_partingLevel_4 (by decide) (fun c4 => ?_) (fun c4 => ?_)
      · refine lv_sipush (v := 256) hx hb d_X_partingLevel_37 (by decide) ?_
        exact ht_iret hx hb hr hlocks HW ⟨by rw [ht_part_eq.mpr (ht_kf_ext (fun j hj => heq j (by omega)))]; rfl, rfl⟩ d_X_partingLevel_40
      · exact absurd (by rw [ej]; exact nI_le (show 4 ≤ i by omega) (by omega)) c4
    | succ n ih =>
      intro i hi heq H locs ls j ej HW hl
      refine lv_iload_n hx hb d_X_partingLevel_2 rfl (lv_at hl 2 rfl) ?_
      refine lv_iconst (v := 4) hx hb d_X_partingLevel_3 (by decide) ?_
      refine lv_icmp_ge (tgt := 37) hx hb d_X_partingLevel_4 (by decide) (fun c4 => ?_) (fun c4 => ?_)
      · exact absurd (by rw [ej] at c4; exact c4) (nI_ge (show i < 4 by omega) (by omega))
      · refine lv_aload_n hx hb d_X_partingLevel_7 rfl (lv_at hl 0 rfl) ?_
        refine lv_iload_n hx hb d_X_partingLevel_8 rfl (lv_at hl 2 rfl) ?_
        refine ht_lald hx hb HW h1 (by rw [ej]; exact vp_in_nI (by omega) (by omega)) d_X_partingLevel_9 ?_
        refine lv_topl (fun y1 ey1 => ?_)
        have ey1 : y1 = (ht_kf k1) i := by rw [ey1, ej, nI_clamp (by omega)]
        refine lv_aload_n hx hb d_X_partingLevel_10 rfl (lv_at hl 1 rfl) ?_
        refine lv_iload_n hx hb d_X_partingLevel_11 rfl (lv_at hl 2 rfl) ?_
        refine ht_lald hx hb HW h2 (by rw [ej]; exact vp_in_nI (by omega) (by omega)) d_X_partingLevel_12 ?_
        refine lv_topl (fun y2 ey2 => ?_)
        have ey2 : y2 = (ht_kf k2) i := by rw [ey2, ej, nI_clamp (by omega)]
        refine lv_lxor hx hb d_X_partingLevel_13 ?_
        refine lv_topl (fun df edf => ?_)
        refine lv_lstore_n (lv' := [(3, .long df), (0, .ref a1), (1, .ref a2), (2, .int j)]) hx hb d_X_partingLevel_14 rfl hl (by decide) rfl (fun ls hl => ?_)
        refine lv_lload_n hx hb d_X_partingLevel_15 rfl (lv_at hl 0 rfl) ?_
        refine lv_lconst (v := 0) hx hb d_X_partingLevel_16 (by decide) ?_
        refine W.lcmp hx hb d_X_partingLevel_17 ?_
        refine lv_if_eq (tgt := 31) hx hb d_X_partingLevel_18 (by decide) (fun c18 => ?_) (fun c18 => ?_)
        · have hd0 : df = 0 := (lg_cmp_eq df 0).mp c18
          obtain ⟨j2, ej2⟩ : ∃ y : Int32, y = j + 1 := ⟨_, rfl⟩
          refine lv_iinc (v := j2) (lv' := [(2, .int j2), (3, .long df), (0, .ref a1), (1, .ref a2)]) hx hb d_X_partingLevel_31 hl (k := 3) rfl (by rw [ej2]; rfl) (by decide) rfl (fun ls hl => ?_)
          refine lv_goto (tgt := 2) hx hb d_X_partingLevel_34 (by decide) ?_
          refine ih (i + 1) (by omega) (fun j9 hj9 => ?_) _ _ _ j2 (by rw [ej2, ej, nI_1]) HW (lv_sub hl [2, 3, 0] rfl)
          rcases Nat.lt_or_ge j9 i with q | q
          · exact heq j9 q
          · have e9 : j9 = i := by omega
            subst e9
            rw [← ey1, ← ey2]
            exact ht_x0 (by rw [← edf]; exact hd0)
        · have hd0 : df ≠ 0 := fun q => c18 ((lg_cmp_eq df 0).mpr q)
          refine lv_iload_n hx hb d_X_partingLevel_21 rfl (lv_at hl 3 rfl) ?_
          refine lv_bipush (v := 64) hx hb d_X_partingLevel_22 (by decide) ?_
          refine lv_imul hx hb d_X_partingLevel_24 ?_
          refine lv_lload_n hx hb d_X_partingLevel_25 rfl (lv_at hl 0 rfl) ?_
          refine ht_ci HW (va_runS (own := R_X) (As := [.long df]) (rest := [.int (j * (64 : Int32))]) ⟨hx, hb, hml, hown, htb⟩ (c_JL_numberOfLeadingZeros l g w df) (va_cwS 1 htb (ht_gs wd_99 wd_100 wd_4 g_JL_numberOfLeadingZeros) rfl rfl rfl (by decide +kernel) ⟨Nat.le_of_ble_eq_true rfl, Nat.le_of_ble_eq_true rfl⟩) (HW.preS _) rfl rfl hl.1 rfl (lv_room (Nat.le_of_ble_eq_true rfl)) d_X_partingLevel_26 ⟨Nat.le_of_ble_eq_true rfl, Nat.le_of_ble_eq_true rfl⟩) (fun q2 u1 H locs pz HW => ?_)
          obtain ⟨⟨z, erz, hz⟩, eww⟩ := pz
          subst eww
          refine lv_iadd hx hb d_X_partingLevel_29 ?_
          exact ht_iret hx hb hr hlocks HW ⟨by rw [ej, erz, show (64 : Int32) = nI 64 from rfl, pk_mul, nI_add, ht_part_w (by omega) heq (by rw [← ey1, ← ey2, ← edf]; exact hd0) (by rw [← ey1, ← ey2, ← edf]; exact hz)], rfl⟩ d_X_partingLevel_30
  refine lv_iconst (v := 0) hx hb d_X_partingLevel_0 (by decide) ?_
  refine lv_istore_n (lv' := [(2, .int 0), (0, .ref a1), (1, .ref a2)]) hx hb d_X_partingLevel_1 rfl hl (by decide) rfl (fun ls hl => ?_)
  exact loop 4 0 rfl (fun j hj => absurd hj (Nat.not_lt_zero j)) _ _ _ 0 rfl HW (lv_sub hl [1, 2, 0] rfl)
end
section
/-! A node's cell, of either kind. -/
def ht_nc (r : ht_R) (ka ha va : Nat) : va_E := match ht_rp r with
  | .inl _ => .inr (2, [.ref ka, .int (nI (ht_rl r)), .ref ha, .int (ht_b1 (ht_rf r)), .ref va])
  | .inr zo => .inr (3, [.ref ka, .int (nI (ht_rl r)), .ref ha, .int (ht_b1 (ht_rf r)), .ref zo.1, .ref zo.2])
def ht_nv (r : ht_R) (ka ha : Nat) : List Value := [.ref ka, .int (nI (ht_rl r)), .ref ha, .int (ht_b1 (ht_rf r))]
def ht_sf (r : ht_R) (b : Bool) : ht_R := (r.1, r.2.1, r.2.2.1, b, r.2.2.2.2)
def ht_sh (r : ht_R) (h : ht_K) : ht_R := (r.1, r.2.1, h, r.2.2.2.1, r.2.2.2.2)
def ht_spy (r : ht_R) (p : ht_K ⊕ (Nat × Nat)) : ht_R := (r.1, r.2.1, r.2.2.1, r.2.2.2.1, p)
theorem ht_nc_l {r : ht_R} {ka ha va : Nat} {v : ht_K} (h : ht_rp r = .inl v) : ht_nc r ka ha va = .inr (2, [.ref ka, .int (nI (ht_rl r)), .ref ha, .int (ht_b1 (ht_rf r)), .ref va]) := by
  unfold ht_nc
  rw [h]
theorem ht_nc_b {r : ht_R} {ka ha va : Nat} {zo : Nat × Nat} (h : ht_rp r = .inr zo) : ht_nc r ka ha va = .inr (3, [.ref ka, .int (nI (ht_rl r)), .ref ha, .int (ht_b1 (ht_rf r)), .ref zo.1, .ref zo.2]) := by
  unfold ht_nc
  rw [h]
theorem ht_b1_0 {b : Bool} (h : ht_b1 b = 0) : b = false := by
  cases b with
  | false => rfl
  | true => exact absurd h (by decide)
theorem ht_b1_1 {b : Bool} (h : ¬ ht_b1 b = 0) : b = true := by
  cases b with
  | false => exact absurd rfl h
  | true => rfl
theorem ht_b1_n (b : Bool) : narrow .boolean (.int (ht_b1 b)) = .int (ht_b1 b) := by cases b <;> rfl
theorem ht_b1_f (b : Bool) : fits .boolean (.int (ht_b1 b)) = true := by cases b <;> rfl
section HTN
variable {p : Program} {l : Launch} {e : Env} {R : Room} {s : State} {m : MethodId} {args : Array Value} {below : List Frame} {meth : Method} {c : Code} {H : Heap} {locs : List Loc} {cells slots : Nat} {Q : State → Prop}
variable {cc : ByteArray} {pc : Nat} {ls : Array Slot} {rest : List Value} {g : ht_G} {w : ht_W} {a : Nat}
theorem ht_FLB {k : Nat} (h : k < 4) : F_L k = F_B k := by
  rcases (show k = 0 ∨ k = 1 ∨ k = 2 ∨ k = 3 by omega) with rfl | rfl | rfl | rfl <;> rfl
theorem ht_ngt (hx : p.tables.exec = Jvm.exec) (hb : c.code = cc) (htb : ∀ w ∈ bg, w.before args s = true) {own ref : String} {index : Nat} (hown : s.vm.findClass own = some m.cls) (HW : ht_I g s w H locs) {r : ht_R} {ka ha va : Nat} (he : ht_at w a (ht_nc r ka ha va)) (k : Nat) (hk : k < 4) (hlink : (Cond.fieldLink own index ref (F_B k).2.1 (F_B k).2.2.1).before args s = true) (hsame : ∀ x, s.fieldFound? (F_B k).1 (F_B k).2.1 (F_B k).2.2.1 = some x → s.fieldFound? ref (F_B k).2.1 (F_B k).2.2.1 = some x) {v : Value} (hv : (ht_nv r ka ha)[k]? = some v) (hdg : decode cc pc = .ok (.getfield index, 3))
    (kk : W p l e R s m args below meth c H locs cells slots Q (F0 m (pc + 3) ls (v :: rest))) : W p l e R s m args below meth c H locs cells slots Q (F0 m pc ls (.ref a :: rest)) := by
  cases hp : ht_rp r with
  | inl x =>
    rw [ht_nc_l hp] at he
    rw [← ht_FLB hk] at hlink hsame
    refine ht_get (C := R_L) (T := F_L) (N := 5) hx hb htb i_L hown HW he rfl k (by omega) hlink hsame ?_ hdg kk
    rw [← hv]
    rcases (show k = 0 ∨ k = 1 ∨ k = 2 ∨ k = 3 by omega) with rfl | rfl | rfl | rfl <;> rfl
  | inr zo =>
    rw [ht_nc_b hp] at he
    refine ht_get (C := R_B) (T := F_B) (N := 6) hx hb htb i_B hown HW he rfl k (by omega) hlink hsame ?_ hdg kk
    rw [← hv]
    rcases (show k = 0 ∨ k = 1 ∨ k = 2 ∨ k = 3 by omega) with rfl | rfl | rfl | rfl <;> rfl
theorem ht_npt (hx : p.tables.exec = Jvm.exec) (hb : c.code = cc) (htb : ∀ w ∈ bg, w.before args s = true) {own ref : String} {index : Nat} (hown : s.vm.findClass own = some m.cls) (HW : ht_I g s w H locs) {r : ht_R} {ka ha va : Nat} {b : Bool} (he : ht_at w a (ht_nc r ka ha va)) (hlink : (Cond.fieldLink own index ref (F_B 3).2.1 (F_B 3).2.2.1).before args s = true) (hsame : ∀ x, s.fieldFound? (F_B 3).1 (F_B 3).2.1 (F_B 3).2.2.1 = some x → s.fieldFound? ref (F_B 3).2.1 (F_B 3).2.2.1 = some x) (hdg : decode cc pc = .ok (.putfield index, 3))
    (kk : ∀ (H1 : Heap) (locs1 : List Loc), ht_I g s (ht_up w a (ht_nc (ht_sf r b) ka ha va)) H1 locs1 → W p l e R s m args below meth c H1 locs1 cells slots Q (F0 m (pc + 3) ls rest)) : W p l e R s m args below meth c H locs cells slots Q (F0 m pc ls (.int (ht_b1 b) :: .ref a :: rest)) := by
  cases hp : ht_rp r with
  | inl x =>
    have hp2 : ht_rp (ht_sf r b) = .inl x := hp
    rw [ht_nc_l hp] at he
    rw [ht_nc_l hp2] at kk
    exact ht_put (C := R_L) (T := F_L) (N := 5) (ty := .boolean) hx hb htb i_L t_L t_L_ok n_L hown HW he rfl 3 (by decide) hlink hsame rfl (by decide +kernel) (ht_b1_n b) (ht_b1_f b) (Nat.le_of_ble_eq_true rfl) hdg kk
  | inr zo =>
    have hp2 : ht_rp (ht_sf r b) = .inr zo := hp
    rw [ht_nc_b hp] at he
    rw [ht_nc_b hp2] at kk
    exact ht_put (C := R_B) (T := F_B) (N := 6) (ty := .boolean) hx hb htb i_B t_B t_B_ok n_B hown HW he rfl 3 (by decide) hlink hsame rfl (by decide +kernel) (ht_b1_n b) (ht_b1_f b) (Nat.le_of_ble_eq_true rfl) hdg kk
end HTN
set_option maxHeartbeats 4000000 in
set_option maxRecDepth 100000 in
theorem c_B_half (l : Launch) (g : ht_G) (w : ht_W) {b ka ha z o : Nat} {lv fr : Int32} (hB : ht_at w b (.inr (3, [.ref ka, .int lv, .ref ha, .int fr, .ref z, .ref o]))) (q : Bool) : Met l y_B_half ws_B_half ({ frames := 0, cells := 0, slots := 0, locals := 0 } : Room) (va_Pc [.ref b, .int (ht_b1 q)] (ht_WS g w)) (ht_Qq g (fun r u => r = some (ht_ch (z, o) q) ∧ w = u)) 0 0 (ht_A g) := by
  refine Met.ofW (cc := b_B_half) (maxL := 2) (ret := (some (.object "HashTree$Node"))) (by decide) rfl ?_
  intro p e s m args below meth c s₁ BB hml hv
  obtain ⟨rfl, HW⟩ := hv
  have HW := ht_I.start HW
  have hx := BB.exec
  have hb := BB.bytes
  have hr := BB.returns
  have hts := atoms_spec (ws := ws_B_half) BB.pre
  have htb : ∀ w ∈ bg, w.before _ s = true := fun w h => hts w (List.mem_cons_of_mem _ h)
  have hown : s.vm.findClass R_B = some m.cls := findClass_of_methodNamed BB.named
  have hlocks := BB.notSynchronized
  have hl := lv_entry ([.ref b, .int (ht_b1 q)]) (n := 2) (Nat.le_of_ble_eq_true rfl)
  rw [lg_entry_eq]
  generalize (lg_sl ([.ref b, .int (ht_b1 q)]) ++ List.replicate (2 - (lg_sl ([.ref b, .int (ht_b1 q)])).length) Slot.unset).toArray = ls at hl ⊢
  have hl : lv_has ls 2 [(0, .ref b), (1, .int (ht_b1 q))] := hl
  refine lv_iload_n hx hb d_B_half_0 rfl (lv_at hl 1 rfl) ?_
  refine lv_if_eq (tgt := 11) hx hb d_B_half_1 (by decide) (fun c1 => ?_) (fun c1 => ?_)
  · have hq := ht_b1_0 c1
    subst hq
    refine lv_aload_n hx hb d_B_half_11 rfl (lv_at hl 0 rfl) ?_
    refine ht_get (C := R_B) (T := F_B) (N := 6) (v := .ref z) hx hb htb i_B hown HW hB rfl 4 (by decide) (htb _ wd_165) (fun _ h9 => h9) rfl d_B_half_12 ?_
    exact ht_qret (r := some _) hx hb hr hlocks HW ⟨rfl, rfl⟩ d_B_half_15
  · have hq := ht_b1_1 c1
    subst hq
    refine lv_aload_n hx hb d_B_half_4 rfl (lv_at hl 0 rfl) ?_
    refine ht_get (C := R_B) (T := F_B) (N := 6) (v := .ref o) hx hb htb i_B hown HW hB rfl 5 (by decide) (htb _ wd_167) (fun _ h9 => h9) rfl d_B_half_5 ?_
    refine lv_goto (tgt := 15) hx hb d_B_half_8 (by decide) ?_
    exact ht_qret (r := some _) hx hb hr hlocks HW ⟨rfl, rfl⟩ d_B_half_15
set_option maxHeartbeats 4000000 in
set_option maxRecDepth 100000 in
theorem c_B_putHalf (l : Launch) (g : ht_G) (w : ht_W) {b ka ha z o : Nat} {lv fr : Int32} (hB : ht_at w b (.inr (3, [.ref ka, .int lv, .ref ha, .int fr, .ref z, .ref o]))) (q : Bool) (x : Nat) : Met l y_B_putHalf ws_B_putHalf ({ frames := 0, cells := 0, slots := 0, locals := 0 } : Room) (va_Pc [.ref b, .int (ht_b1 q), .ref x] (ht_WS g w)) (ht_Qv g (fun u => u = ht_up w b (.inr (3, [.ref ka, .int lv, .ref ha, .int fr, .ref (ht_zo (z, o) q x).1, .ref (ht_zo (z, o) q x).2])))) 0 0 (ht_A g) := by
  refine Met.ofW (cc := b_B_putHalf) (maxL := 3) (ret := none) (by decide) rfl ?_
  intro p e s m args below meth c s₁ BB hml hv
  obtain ⟨rfl, HW⟩ := hv
  have HW := ht_I.start HW
  have hx := BB.exec
  have hb := BB.bytes
  have hr := BB.returns
  have hts := atoms_spec (ws := ws_B_putHalf) BB.pre
  have htb : ∀ w ∈ bg, w.before _ s = true := fun w h => hts w (List.mem_cons_of_mem _ h)
  have hown : s.vm.findClass R_B = some m.cls := findClass_of_methodNamed BB.named
  have hlocks := BB.notSynchronized
  have hl := lv_entry ([.ref b, .int (ht_b1 q), .ref x]) (n := 3) (Nat.le_of_ble_eq_true rfl)
  rw [lg_entry_eq]
  generalize (lg_sl ([.ref b, .int (ht_b1 q), .ref x]) ++ List.replicate (3 - (lg_sl ([.ref b, .int (ht_b1 q), .ref x])).length) Slot.unset).toArray = ls at hl ⊢
  have hl : lv_has ls 3 [(0, .ref b), (1, .int (ht_b1 q)), (2, .ref x)] := hl
  refine lv_iload_n hx hb d_B_putHalf_0 rfl (lv_at hl 1 rfl) ?_
  refine lv_if_eq (tgt := 12) hx hb d_B_putHalf_1 (by decide) (fun c1 => ?_) (fun c1 => ?_)
  · have hq := ht_b1_0 c1
    subst hq
    refine lv_aload_n hx hb d_B_putHalf_12 rfl (lv_at hl 0 rfl) ?_
    refine lv_aload_n hx hb d_B_putHalf_13 rfl (lv_at hl 2 rfl) ?_
    refine ht_put (C := R_B) (T := F_B) (N := 6) (v := .ref x) (ty := .object "HashTree$Node") hx hb htb i_B t_B t_B_ok n_B hown HW hB rfl 4 (by decide) (htb _ wd_165) (fun _ h9 => h9) rfl (by decide +kernel) rfl rfl (Nat.le_of_ble_eq_true rfl) d_B_putHalf_14 (fun H locs HW => ?_)
    obtain ⟨u1, hu1⟩ : ∃ zW : ht_W, zW = ht_up w b (.inr (3, [.ref ka, .int lv, .ref ha, .int fr, .ref x, .ref o]) : va_E) := ⟨_, rfl⟩
    have HW : ht_I g s u1 H locs := by rw [hu1]; exact HW
    have hB : ht_at u1 b (.inr (3, [.ref ka, .int lv, .ref ha, .int fr, .ref x, .ref o]) : va_E) := by rw [hu1]; exact ht_at_self hB
    exact ht_vret hx hb hr hlocks HW hu1 d_B_putHalf_17
  · have hq := ht_b1_1 c1
    subst hq
    refine lv_aload_n hx hb d_B_putHalf_4 rfl (lv_at hl 0 rfl) ?_
    refine lv_aload_n hx hb d_B_putHalf_5 rfl (lv_at hl 2 rfl) ?_
    refine ht_put (C := R_B) (T := F_B) (N := 6) (v := .ref x) (ty := .object "HashTree$Node") hx hb htb i_B t_B t_B_ok n_B hown HW hB rfl 5 (by decide) (htb _ wd_167) (fun _ h9 => h9) rfl (by decide +kernel) rfl rfl (Nat.le_of_ble_eq_true rfl) d_B_putHalf_6 (fun H locs HW => ?_)
    obtain ⟨u2, hu2⟩ : ∃ zW : ht_W, zW = ht_up w b (.inr (3, [.ref ka, .int lv, .ref ha, .int fr, .ref z, .ref x]) : va_E) := ⟨_, rfl⟩
    have HW : ht_I g s u2 H locs := by rw [hu2]; exact HW
    have hB : ht_at u2 b (.inr (3, [.ref ka, .int lv, .ref ha, .int fr, .ref z, .ref x]) : va_E) := by rw [hu2]; exact ht_at_self hB
    refine lv_goto (tgt := 17) hx hb d_B_putHalf_9 (by decide) ?_
    exact ht_vret hx hb hr hlocks HW hu2 d_B_putHalf_17
set_option maxHeartbeats 4000000 in
set_option maxRecDepth 100000 in
theorem c_B_staleHalf (l : Launch) (g : ht_G) (w : ht_W) {b ka ha z o : Nat} {lv fr : Int32} (hB : ht_at w b (.inr (3, [.ref ka, .int lv, .ref ha, .int fr, .ref z, .ref o]))) {rz ro : ht_R} {kz hz vz ko ho vo : Nat} (hZ : ht_at w z (ht_nc rz kz hz vz)) (hO : ht_at w o (ht_nc ro ko ho vo)) : Met l y_B_staleHalf ws_B_staleHalf ({ frames := 0, cells := 0, slots := 0, locals := 0 } : Room) (va_Pc [.ref b] (ht_WS g w)) (ht_Qq g (fun r u => r = (if ht_rf rz = true then (if ht_rf ro = true then none else some o) else some z) ∧ w = u)) 0 0 (ht_A g) := by
  refine Met.ofW (cc := b_B_staleHalf) (maxL := 1) (ret := (some (.object "HashTree$Node"))) (by decide) rfl ?_
  intro p e s m args below meth c s₁ BB hml hv
  obtain ⟨rfl, HW⟩ := hv
  have HW := ht_I.start HW
  have hx := BB.exec
  have hb := BB.bytes
  have hr := BB.returns
  have hts := atoms_spec (ws := ws_B_staleHalf) BB.pre
  have htb : ∀ w ∈ bg, w.before _ s = true := fun w h => hts w (List.mem_cons_of_mem _ h)
  have hown : s.vm.findClass R_B = some m.cls := findClass_of_methodNamed BB.named
  have hlocks := BB.notSynchronized
  have hl := lv_entry ([.ref b]) (n := 1) (Nat.le_of_ble_eq_true rfl)
  rw [lg_entry_eq]
  generalize (lg_sl ([.ref b]) ++ List.replicate (1 - (lg_sl ([.ref b])).length) Slot.unset).toArray = ls at hl ⊢
  have hl : lv_has ls 1 [(0, .ref b)] := hl
  refine lv_aload_n hx hb d_B_staleHalf_0 rfl (lv_at hl 0 rfl) ?_
  refine ht_get (C := R_B) (T := F_B) (N := 6) (v := .ref z) hx hb htb i_B hown HW hB rfl 4 (by decide) (htb _ wd_165) (fun _ h9 => h9) rfl d_B_staleHalf_1 ?_
  refine ht_ngt hx hb htb hown HW hZ 3 (by decide) (htb _ wd_141) (fun _ h9 => h9) (v := .int (ht_b1 (ht_rf rz))) rfl d_B_staleHalf_4 ?_
  refine lv_if_ne (tgt := 15) hx hb d_B_staleHalf_7 (by decide) (fun c7 => ?_) (fun c7 => ?_)
  · have h7 := ht_b1_1 c7
    refine lv_aload_n hx hb d_B_staleHalf_15 rfl (lv_at hl 0 rfl) ?_
    refine ht_get (C := R_B) (T := F_B) (N := 6) (v := .ref o) hx hb htb i_B hown HW hB rfl 5 (by decide) (htb _ wd_167) (fun _ h9 => h9) rfl d_B_staleHalf_16 ?_
    refine ht_ngt hx hb htb hown HW hO 3 (by decide) (htb _ wd_141) (fun _ h9 => h9) (v := .int (ht_b1 (ht_rf ro))) rfl d_B_staleHalf_19 ?_
    refine lv_if_eq (tgt := 29) hx hb d_B_staleHalf_22 (by decide) (fun c22 => ?_) (fun c22 => ?_)
    · have h22 := ht_b1_0 c22
      refine lv_aload_n hx hb d_B_staleHalf_29 rfl (lv_at hl 0 rfl) ?_
      refine ht_get (C := R_B) (T := F_B) (N := 6) (v := .ref o) hx hb htb i_B hown HW hB rfl 5 (by decide) (htb _ wd_167) (fun _ h9 => h9) rfl d_B_staleHalf_30 ?_
      exact ht_qret (r := some o) hx hb hr hlocks HW ⟨by rw [if_pos h7, if_neg (by rw [h22]; decide)], rfl⟩ d_B_staleHalf_33
    · have h22 := ht_b1_1 c22
      refine lv_null hx hb d_B_staleHalf_25 ?_
      refine lv_goto (tgt := 33) hx hb d_B_staleHalf_26 (by decide) ?_
      exact ht_qret (r := none) hx hb hr hlocks HW ⟨by rw [if_pos h7, if_pos h22], rfl⟩ d_B_staleHalf_33
  · have h7 := ht_b1_0 c7
    refine lv_aload_n hx hb d_B_staleHalf_10 rfl (lv_at hl 0 rfl) ?_
    refine ht_get (C := R_B) (T := F_B) (N := 6) (v := .ref z) hx hb htb i_B hown HW hB rfl 4 (by decide) (htb _ wd_165) (fun _ h9 => h9) rfl d_B_staleHalf_11 ?_
    exact ht_qret (r := some z) hx hb hr hlocks HW ⟨by rw [if_neg (by rw [h7]; decide)], rfl⟩ d_B_staleHalf_14
end
section
theorem ht_nw_up {w : ht_W} {o q : Nat} {x e : va_E} (h : o ≠ q) : ht_nw (ht_up w o x) q e = ht_up (ht_nw w q e) o x := by
  simp only [ht_nw, ht_up, Prod.mk.injEq, true_and]
  funext j
  unfold va_up
  by_cases h1 : j = q
  · subst h1
    rw [if_pos rfl, if_neg (fun z => h z.symm), if_pos rfl]
  · rw [if_neg h1]
    by_cases h2 : j = o
    · rw [if_pos h2, if_pos h2]
    · rw [if_neg h2, if_neg h2, if_neg h1]
theorem ht_notin {w : ht_W} {q q' : Nat} {e : va_E} (h : q' ∉ (ht_nw w q e).1) : q' ∉ w.1 ∧ q ≠ q' := by
  constructor
  · exact fun z => h (List.mem_append_left _ z)
  · exact fun z => h (by rw [← z]; exact List.mem_append_right _ (List.mem_singleton.mpr rfl))
set_option maxHeartbeats 4000000 in
set_option maxRecDepth 100000 in
theorem c_N_init_L (l : Launch) (g : ht_G) (w : ht_W) {o ka : Nat} {lv : Int32} (hO : ht_at w o (.inr (2, [.null, .int 0, .null, .int 0, .null]))) : Met l y_N_init ws_N_init ({ frames := 1, cells := 1, slots := 4, locals := 20 } : Room) (va_Pc [.ref o, .ref ka, .int lv] (ht_WS g w)) (ht_Qv g (fun u => ∃ qh, qh ∉ w.1 ∧ u = ht_up (ht_nw w qh (ht_al g 4 (fun _ => 0))) o (.inr (2, [.ref ka, .int lv, .ref qh, .int 0, .null])))) 1 4 (ht_A g) := by
  refine Met.ofW (cc := b_N_init) (maxL := 3) (ret := none) (by decide) rfl ?_
  intro p e s m args below meth c s₁ BB hml hv
  obtain ⟨rfl, HW⟩ := hv
  have HW := ht_I.start HW
  have hx := BB.exec
  have hb := BB.bytes
  have hr := BB.returns
  have hts := atoms_spec (ws := ws_N_init) BB.pre
  have htb : ∀ w ∈ bg, w.before _ s = true := fun w h => hts w (List.mem_cons_of_mem _ h)
  have hown : s.vm.findClass R_N = some m.cls := findClass_of_methodNamed BB.named
  have hlocks := BB.notSynchronized
  have hin : meth.name = "<init>" := (name_of_methodNamed BB.named BB.method).1
  have hl := lv_entry ([.ref o, .ref ka, .int lv]) (n := 3) (Nat.le_of_ble_eq_true rfl)
  rw [lg_entry_eq]
  generalize (lg_sl ([.ref o, .ref ka, .int lv]) ++ List.replicate (3 - (lg_sl ([.ref o, .ref ka, .int lv])).length) Slot.unset).toArray = ls at hl ⊢
  have hl : lv_has ls 3 [(0, .ref o), (1, .ref ka), (2, .int lv)] := hl
  refine lv_aload_n hx hb d_N_init_0 rfl (lv_at hl 0 rfl) ?_
  refine W.objInit hx hb hown (htb _ wd_124) (htb _ wd_18) (htb _ wc_objectInit) rfl (by rw [hml]; exact hl.1) rfl d_N_init_1 (Nat.le_of_ble_eq_true rfl) (Nat.le_of_ble_eq_true rfl) ?_
  refine W.eq (g2 := F0 m 4 ls []) rfl ?_
  refine lv_aload_n hx hb d_N_init_4 rfl (lv_at hl 0 rfl) ?_
  refine lv_iconst (v := 4) hx hb d_N_init_5 (by decide) ?_
  refine ht_newl (N' := 4) hx hb (htb _ wd_36) HW (by decide) rfl (by decide) (Nat.le_of_ble_eq_true rfl) (Nat.le_of_ble_eq_true rfl) rfl d_N_init_6 (fun qh H hq_qh HW => ?_)
  obtain ⟨u1, hu1⟩ : ∃ zW : ht_W, zW = ht_nw w qh (ht_al g 4 (fun _ => 0)) := ⟨_, rfl⟩
  have HW := HW.to hu1.symm
  have n_o_qh : o ≠ qh := fun z9 => hq_qh (by rw [← z9]; exact hO.1)
  have hO : ht_at u1 o (.inr (2, [.null, .int 0, .null, .int 0, .null]) : va_E) := by rw [hu1]; exact ht_at_old hO hq_qh
  have h_qh : ht_at u1 qh (ht_al g 4 (fun _ => 0)) := by rw [hu1]; exact ht_at_new
  refine ht_putF (C := R_L) (T := F_L) (N := 5) (v := .ref qh) (ty := .array .long) hx hb htb i_L t_L t_L_ok n_L hown HW hO rfl 2 (by decide) (htb _ wd_136) (fun _ h9 => h9) rfl hin rfl (by decide +kernel) rfl rfl (Nat.le_of_ble_eq_true rfl) d_N_init_8 (fun H locs HW => ?_)
  have n_qh_o : qh ≠ o := (Ne.symm n_o_qh)
  obtain ⟨u2, hu2⟩ : ∃ zW : ht_W, zW = ht_up u1 o (.inr (2, [.null, .int 0, .ref qh, .int 0, .null]) : va_E) := ⟨_, rfl⟩
  have HW : ht_I g s u2 H locs := by rw [hu2]; exact HW
  have hO : ht_at u2 o (.inr (2, [.null, .int 0, .ref qh, .int 0, .null]) : va_E) := by rw [hu2]; exact ht_at_self hO
  have h_qh : ht_at u2 qh (ht_al g 4 (fun _ => 0)) := by rw [hu2]; exact ht_at_ne h_qh n_qh_o
  refine lv_aload_n hx hb d_N_init_11 rfl (lv_at hl 0 rfl) ?_
  refine lv_iconst (v := 0) hx hb d_N_init_12 (by decide) ?_
  refine ht_put (C := R_L) (T := F_L) (N := 5) (v := .int 0) (ty := .boolean) hx hb htb i_L t_L t_L_ok n_L hown HW hO rfl 3 (by decide) (htb _ wd_138) (fun _ h9 => h9) rfl (by decide +kernel) rfl rfl (Nat.le_of_ble_eq_true rfl) d_N_init_13 (fun H locs HW => ?_)
  obtain ⟨u3, hu3⟩ : ∃ zW : ht_W, zW = ht_up u2 o (.inr (2, [.null, .int 0, .ref qh, .int 0, .null]) : va_E) := ⟨_, rfl⟩
  have HW : ht_I g s u3 H locs := by rw [hu3]; exact HW
  have hO : ht_at u3 o (.inr (2, [.null, .int 0, .ref qh, .int 0, .null]) : va_E) := by rw [hu3]; exact ht_at_self hO
  have h_qh : ht_at u3 qh (ht_al g 4 (fun _ => 0)) := by rw [hu3]; exact ht_at_ne h_qh n_qh_o
  refine lv_aload_n hx hb d_N_init_16 rfl (lv_at hl 0 rfl) ?_
  refine lv_aload_n hx hb d_N_init_17 rfl (lv_at hl 1 rfl) ?_
  refine ht_putF (C := R_L) (T := F_L) (N := 5) (v := .ref ka) (ty := .array .long) hx hb htb i_L t_L t_L_ok n_L hown HW hO rfl 0 (by decide) (htb _ wd_127) (fun _ h9 => h9) rfl hin rfl (by decide +kernel) rfl rfl (Nat.le_of_ble_eq_true rfl) d_N_init_18 (fun H locs HW => ?_)
  obtain ⟨u4, hu4⟩ : ∃ zW : ht_W, zW = ht_up u3 o (.inr (2, [.ref ka, .int 0, .ref qh, .int 0, .null]) : va_E) := ⟨_, rfl⟩
  have HW : ht_I g s u4 H locs := by rw [hu4]; exact HW
  have hO : ht_at u4 o (.inr (2, [.ref ka, .int 0, .ref qh, .int 0, .null]) : va_E) := by rw [hu4]; exact ht_at_self hO
  have h_qh : ht_at u4 qh (ht_al g 4 (fun _ => 0)) := by rw [hu4]; exact ht_at_ne h_qh n_qh_o
  refine lv_aload_n hx hb d_N_init_21 rfl (lv_at hl 0 rfl) ?_
  refine lv_iload_n hx hb d_N_init_22 rfl (lv_at hl 2 rfl) ?_
  refine ht_putF (C := R_L) (T := F_L) (N := 5) (v := .int lv) (ty := .int) hx hb htb i_L t_L t_L_ok n_L hown HW hO rfl 1 (by decide) (htb _ wd_132) (fun _ h9 => h9) rfl hin rfl (by decide +kernel) rfl rfl (Nat.le_of_ble_eq_true rfl) d_N_init_23 (fun H locs HW => ?_)
  obtain ⟨u5, hu5⟩ : ∃ zW : ht_W, zW = ht_up u4 o (.inr (2, [.ref ka, .int lv, .ref qh, .int 0, .null]) : va_E) := ⟨_, rfl⟩
  have HW : ht_I g s u5 H locs := by rw [hu5]; exact HW
  have hO : ht_at u5 o (.inr (2, [.ref ka, .int lv, .ref qh, .int 0, .null]) : va_E) := by rw [hu5]; exact ht_at_self hO
  have h_qh : ht_at u5 qh (ht_al g 4 (fun _ => 0)) := by rw [hu5]; exact ht_at_ne h_qh n_qh_o
  exact ht_vret hx hb hr hlocks HW ⟨qh, hq_qh, by rw [hu5, hu4, hu3, hu2, hu1]; simp only [ht_up_up]⟩ d_N_init_26
set_option maxHeartbeats 4000000 in
set_option maxRecDepth 100000 in
theorem c_N_init_B (l : Launch) (g : ht_G) (w : ht_W) {o ka : Nat} {lv : Int32} (hO : ht_at w o (.inr (3, [.null, .int 0, .null, .int 0, .null, .null]))) : Met l y_N_init ws_N_init ({ frames := 1, cells := 1, slots := 4, locals := 20 } : Room) (va_Pc [.ref o, .ref ka, .int lv] (ht_WS g w)) (ht_Qv g (fun u => ∃ qh, qh ∉ w.1 ∧ u = ht_up (ht_nw w qh (ht_al g 4 (fun _ => 0))) o (.inr (3, [.ref ka, .int lv, .ref qh, .int 0, .null, .null])))) 1 4 (ht_A g) := by
  refine Met.ofW (cc := b_N_init) (maxL := 3) (ret := none) (by decide) rfl ?_
  intro p e s m args below meth c s₁ BB hml hv
  obtain ⟨rfl, HW⟩ := hv
  have HW := ht_I.start HW
  have hx := BB.exec
  have hb := BB.bytes
  have hr := BB.returns
  have hts := atoms_spec (ws := ws_N_init) BB.pre
  have htb : ∀ w ∈ bg, w.before _ s = true := fun w h => hts w (List.mem_cons_of_mem _ h)
  have hown : s.vm.findClass R_N = some m.cls := findClass_of_methodNamed BB.named
  have hlocks := BB.notSynchronized
  have hin : meth.name = "<init>" := (name_of_methodNamed BB.named BB.method).1
  have hl := lv_entry ([.ref o, .ref ka, .int lv]) (n := 3) (Nat.le_of_ble_eq_true rfl)
  rw [lg_entry_eq]
  generalize (lg_sl ([.ref o, .ref ka, .int lv]) ++ List.replicate (3 - (lg_sl ([.ref o, .ref ka, .int lv])).length) Slot.unset).toArray = ls at hl ⊢
  have hl : lv_has ls 3 [(0, .ref o), (1, .ref ka), (2, .int lv)] := hl
  refine lv_aload_n hx hb d_N_init_0 rfl (lv_at hl 0 rfl) ?_
  refine W.objInit hx hb hown (htb _ wd_124) (htb _ wd_18) (htb _ wc_objectInit) rfl (by rw [hml]; exact hl.1) rfl d_N_init_1 (Nat.le_of_ble_eq_true rfl) (Nat.le_of_ble_eq_true rfl) ?_
  refine W.eq (g2 := F0 m 4 ls []) rfl ?_
  refine lv_aload_n hx hb d_N_init_4 rfl (lv_at hl 0 rfl) ?_
  refine lv_iconst (v := 4) hx hb d_N_init_5 (by decide) ?_
  refine ht_newl (N' := 4) hx hb (htb _ wd_36) HW (by decide) rfl (by decide) (Nat.le_of_ble_eq_true rfl) (Nat.le_of_ble_eq_true rfl) rfl d_N_init_6 (fun qh H hq_qh HW => ?_)
  obtain ⟨u1, hu1⟩ : ∃ zW : ht_W, zW = ht_nw w qh (ht_al g 4 (fun _ => 0)) := ⟨_, rfl⟩
  have HW := HW.to hu1.symm
  have n_o_qh : o ≠ qh := fun z9 => hq_qh (by rw [← z9]; exact hO.1)
  have hO : ht_at u1 o (.inr (3, [.null, .int 0, .null, .int 0, .null, .null]) : va_E) := by rw [hu1]; exact ht_at_old hO hq_qh
  have h_qh : ht_at u1 qh (ht_al g 4 (fun _ => 0)) := by rw [hu1]; exact ht_at_new
  refine ht_putF (C := R_B) (T := F_B) (N := 6) (v := .ref qh) (ty := .array .long) hx hb htb i_B t_B t_B_ok n_B hown HW hO rfl 2 (by decide) (htb _ wd_136) (fun _ h9 => h9) rfl hin rfl (by decide +kernel) rfl rfl (Nat.le_of_ble_eq_true rfl) d_N_init_8 (fun H locs HW => ?_)
  have n_qh_o : qh ≠ o := (Ne.symm n_o_qh)
  obtain ⟨u2, hu2⟩ : ∃ zW : ht_W, zW = ht_up u1 o (.inr (3, [.null, .int 0, .ref qh, .int 0, .null, .null]) : va_E) := ⟨_, rfl⟩
  have HW : ht_I g s u2 H locs := by rw [hu2]; exact HW
  have hO : ht_at u2 o (.inr (3, [.null, .int 0, .ref qh, .int 0, .null, .null]) : va_E) := by rw [hu2]; exact ht_at_self hO
  have h_qh : ht_at u2 qh (ht_al g 4 (fun _ => 0)) := by rw [hu2]; exact ht_at_ne h_qh n_qh_o
  refine lv_aload_n hx hb d_N_init_11 rfl (lv_at hl 0 rfl) ?_
  refine lv_iconst (v := 0) hx hb d_N_init_12 (by decide) ?_
  refine ht_put (C := R_B) (T := F_B) (N := 6) (v := .int 0) (ty := .boolean) hx hb htb i_B t_B t_B_ok n_B hown HW hO rfl 3 (by decide) (htb _ wd_138) (fun _ h9 => h9) rfl (by decide +kernel) rfl rfl (Nat.le_of_ble_eq_true rfl) d_N_init_13 (fun H locs HW => ?_)
  obtain ⟨u3, hu3⟩ : ∃ zW : ht_W, zW = ht_up u2 o (.inr (3, [.null, .int 0, .ref qh, .int 0, .null, .null]) : va_E) := ⟨_, rfl⟩
  have HW : ht_I g s u3 H locs := by rw [hu3]; exact HW
  have hO : ht_at u3 o (.inr (3, [.null, .int 0, .ref qh, .int 0, .null, .null]) : va_E) := by rw [hu3]; exact ht_at_self hO
  have h_qh : ht_at u3 qh (ht_al g 4 (fun _ => 0)) := by rw [hu3]; exact ht_at_ne h_qh n_qh_o
  refine lv_aload_n hx hb d_N_init_16 rfl (lv_at hl 0 rfl) ?_
  refine lv_aload_n hx hb d_N_init_17 rfl (lv_at hl 1 rfl) ?_
  refine ht_putF (C := R_B) (T := F_B) (N := 6) (v := .ref ka) (ty := .array .long) hx hb htb i_B t_B t_B_ok n_B hown HW hO rfl 0 (by decide) (htb _ wd_127) (fun _ h9 => h9) rfl hin rfl (by decide +kernel) rfl rfl (Nat.le_of_ble_eq_true rfl) d_N_init_18 (fun H locs HW => ?_)
  obtain ⟨u4, hu4⟩ : ∃ zW : ht_W, zW = ht_up u3 o (.inr (3, [.ref ka, .int 0, .ref qh, .int 0, .null, .null]) : va_E) := ⟨_, rfl⟩
  have HW : ht_I g s u4 H locs := by rw [hu4]; exact HW
  have hO : ht_at u4 o (.inr (3, [.ref ka, .int 0, .ref qh, .int 0, .null, .null]) : va_E) := by rw [hu4]; exact ht_at_self hO
  have h_qh : ht_at u4 qh (ht_al g 4 (fun _ => 0)) := by rw [hu4]; exact ht_at_ne h_qh n_qh_o
  refine lv_aload_n hx hb d_N_init_21 rfl (lv_at hl 0 rfl) ?_
  refine lv_iload_n hx hb d_N_init_22 rfl (lv_at hl 2 rfl) ?_
  refine ht_putF (C := R_B) (T := F_B) (N := 6) (v := .int lv) (ty := .int) hx hb htb i_B t_B t_B_ok n_B hown HW hO rfl 1 (by decide) (htb _ wd_132) (fun _ h9 => h9) rfl hin rfl (by decide +kernel) rfl rfl (Nat.le_of_ble_eq_true rfl) d_N_init_23 (fun H locs HW => ?_)
  obtain ⟨u5, hu5⟩ : ∃ zW : ht_W, zW = ht_up u4 o (.inr (3, [.ref ka, .int lv, .ref qh, .int 0, .null, .null]) : va_E) := ⟨_, rfl⟩
  have HW : ht_I g s u5 H locs := by rw [hu5]; exact HW
  have hO : ht_at u5 o (.inr (3, [.ref ka, .int lv, .ref qh, .int 0, .null, .null]) : va_E) := by rw [hu5]; exact ht_at_self hO
  have h_qh : ht_at u5 qh (ht_al g 4 (fun _ => 0)) := by rw [hu5]; exact ht_at_ne h_qh n_qh_o
  exact ht_vret hx hb hr hlocks HW ⟨qh, hq_qh, by rw [hu5, hu4, hu3, hu2, hu1]; simp only [ht_up_up]⟩ d_N_init_26
set_option maxHeartbeats 4000000 in
set_option maxRecDepth 100000 in
theorem c_L_init (l : Launch) (g : ht_G) (w : ht_W) {o ka : Nat} (hO : ht_at w o (.inr (2, [.null, .int 0, .null, .int 0, .null]))) : Met l y_L_init ws_L_init ({ frames := 2, cells := 2, slots := 8, locals := 50 } : Room) (va_Pc [.ref o, .ref ka] (ht_WS g w)) (ht_Qv g (fun u => ∃ qh qv, qh ∉ w.1 ∧ qv ∉ w.1 ∧ qh ≠ qv ∧ u = ht_up (ht_nw (ht_nw w qh (ht_al g 4 (fun _ => 0))) qv (ht_al g 4 (fun _ => 0))) o (.inr (2, [.ref ka, .int 256, .ref qh, .int 0, .ref qv])))) 2 8 (ht_A g) := by
  refine Met.ofW (cc := b_L_init) (maxL := 2) (ret := none) (by decide) rfl ?_
  intro p e s m args below meth c s₁ BB hml hv
  obtain ⟨rfl, HW⟩ := hv
  have HW := ht_I.start HW
  have hx := BB.exec
  have hb := BB.bytes
  have hr := BB.returns
  have hts := atoms_spec (ws := ws_L_init) BB.pre
  have htb : ∀ w ∈ bg, w.before _ s = true := fun w h => hts w (List.mem_cons_of_mem _ h)
  have hown : s.vm.findClass R_L = some m.cls := findClass_of_methodNamed BB.named
  have hlocks := BB.notSynchronized
  have hin : meth.name = "<init>" := (name_of_methodNamed BB.named BB.method).1
  have hl := lv_entry ([.ref o, .ref ka]) (n := 2) (Nat.le_of_ble_eq_true rfl)
  rw [lg_entry_eq]
  generalize (lg_sl ([.ref o, .ref ka]) ++ List.replicate (2 - (lg_sl ([.ref o, .ref ka])).length) Slot.unset).toArray = ls at hl ⊢
  have hl : lv_has ls 2 [(0, .ref o), (1, .ref ka)] := hl
  refine lv_aload_n hx hb d_L_init_0 rfl (lv_at hl 0 rfl) ?_
  refine lv_aload_n hx hb d_L_init_1 rfl (lv_at hl 1 rfl) ?_
  refine lv_sipush (v := 256) hx hb d_L_init_2 (by decide) ?_
  refine ht_cv HW (va_runI (own := R_L) (As := [.ref ka, .int 256]) (rest := []) ⟨hx, hb, hml, hown, htb⟩ (c_N_init_L l g w hO) (cwI 2 htb g_N_init rfl rfl rfl (htb _ wd_6) (htb _ wd_121) (htb _ wd_122) rfl (by decide +kernel) ⟨Nat.le_of_ble_eq_true rfl, Nat.le_of_ble_eq_true rfl⟩) (HW.preS _) rfl rfl hl.1 rfl (lv_room (Nat.le_of_ble_eq_true rfl)) d_L_init_5 ⟨Nat.le_of_ble_eq_true rfl, Nat.le_of_ble_eq_true rfl⟩) (fun u1 H locs pn HW => ?_)
  obtain ⟨qh, hq_qh, eu1⟩ := pn
  have n_o_qh : o ≠ qh := fun z9 => hq_qh (by rw [← z9]; exact hO.1)
  have hO : ht_at u1 o (.inr (2, [.ref ka, .int 256, .ref qh, .int 0, .null]) : va_E) := by rw [eu1]; exact ht_at_self (ht_at_old hO hq_qh)
  have h_qh : ht_at u1 qh (ht_al g 4 (fun _ => 0)) := by rw [eu1]; exact ht_at_ne ht_at_new n_o_qh.symm
  refine lv_aload_n hx hb d_L_init_8 rfl (lv_at hl 0 rfl) ?_
  refine lv_iconst (v := 4) hx hb d_L_init_9 (by decide) ?_
  refine ht_newl (N' := 4) hx hb (htb _ wd_36) HW (by decide) rfl (by decide) (Nat.le_of_ble_eq_true rfl) (Nat.le_of_ble_eq_true rfl) rfl d_L_init_10 (fun qv H hq_qv HW => ?_)
  obtain ⟨u2, hu2⟩ : ∃ zW : ht_W, zW = ht_nw u1 qv (ht_al g 4 (fun _ => 0)) := ⟨_, rfl⟩
  have HW := HW.to hu2.symm
  have n_o_qv : o ≠ qv := fun z9 => hq_qv (by rw [← z9]; exact hO.1)
  have n_qh_qv : qh ≠ qv := fun z9 => hq_qv (by rw [← z9]; exact h_qh.1)
  have hO : ht_at u2 o (.inr (2, [.ref ka, .int 256, .ref qh, .int 0, .null]) : va_E) := by rw [hu2]; exact ht_at_old hO hq_qv
  have h_qh : ht_at u2 qh (ht_al g 4 (fun _ => 0)) := by rw [hu2]; exact ht_at_old h_qh hq_qv
  have h_qv : ht_at u2 qv (ht_al g 4 (fun _ => 0)) := by rw [hu2]; exact ht_at_new
  refine ht_putF (C := R_L) (T := F_L) (N := 5) (v := .ref qv) (ty := .array .long) hx hb htb i_L t_L t_L_ok n_L hown HW hO rfl 4 (by decide) (htb _ wd_125) (fun _ h9 => h9) rfl hin rfl (by decide +kernel) rfl rfl (Nat.le_of_ble_eq_true rfl) d_L_init_12 (fun H locs HW => ?_)
  have n_qh_o : qh ≠ o := (Ne.symm n_o_qh)
  have n_qv_o : qv ≠ o := (Ne.symm n_o_qv)
  obtain ⟨u3, hu3⟩ : ∃ zW : ht_W, zW = ht_up u2 o (.inr (2, [.ref ka, .int 256, .ref qh, .int 0, .ref qv]) : va_E) := ⟨_, rfl⟩
  have HW : ht_I g s u3 H locs := by rw [hu3]; exact HW
  have hO : ht_at u3 o (.inr (2, [.ref ka, .int 256, .ref qh, .int 0, .ref qv]) : va_E) := by rw [hu3]; exact ht_at_self hO
  have h_qh : ht_at u3 qh (ht_al g 4 (fun _ => 0)) := by rw [hu3]; exact ht_at_ne h_qh n_qh_o
  have h_qv : ht_at u3 qv (ht_al g 4 (fun _ => 0)) := by rw [hu3]; exact ht_at_ne h_qv n_qv_o
  have hqv2 := hq_qv
  rw [eu1] at hqv2
  have hqv3 := ht_notin (w := w) (q := qh) (e := ht_al g 4 (fun _ => 0)) hqv2
  exact ht_vret hx hb hr hlocks HW ⟨qh, qv, hq_qh, hqv3.1, hqv3.2, by rw [hu3, hu2, eu1, ht_nw_up n_o_qv, ht_up_up]⟩ d_L_init_15
set_option maxHeartbeats 4000000 in
set_option maxRecDepth 100000 in
theorem c_B_init (l : Launch) (g : ht_G) (w : ht_W) {o ka z on : Nat} {lv : Int32} (hO : ht_at w o (.inr (3, [.null, .int 0, .null, .int 0, .null, .null]))) : Met l y_B_init ws_B_init ({ frames := 2, cells := 1, slots := 4, locals := 50 } : Room) (va_Pc [.ref o, .ref ka, .int lv, .ref z, .ref on] (ht_WS g w)) (ht_Qv g (fun u => ∃ qh, qh ∉ w.1 ∧ u = ht_up (ht_nw w qh (ht_al g 4 (fun _ => 0))) o (.inr (3, [.ref ka, .int lv, .ref qh, .int 0, .ref z, .ref on])))) 1 4 (ht_A g) := by
  refine Met.ofW (cc := b_B_init) (maxL := 5) (ret := none) (by decide) rfl ?_
  intro p e s m args below meth c s₁ BB hml hv
  obtain ⟨rfl, HW⟩ := hv
  have HW := ht_I.start HW
  have hx := BB.exec
  have hb := BB.bytes
  have hr := BB.returns
  have hts := atoms_spec (ws := ws_B_init) BB.pre
  have htb : ∀ w ∈ bg, w.before _ s = true := fun w h => hts w (List.mem_cons_of_mem _ h)
  have hown : s.vm.findClass R_B = some m.cls := findClass_of_methodNamed BB.named
  have hlocks := BB.notSynchronized
  have hin : meth.name = "<init>" := (name_of_methodNamed BB.named BB.method).1
  have hl := lv_entry ([.ref o, .ref ka, .int lv, .ref z, .ref on]) (n := 5) (Nat.le_of_ble_eq_true rfl)
  rw [lg_entry_eq]
  generalize (lg_sl ([.ref o, .ref ka, .int lv, .ref z, .ref on]) ++ List.replicate (5 - (lg_sl ([.ref o, .ref ka, .int lv, .ref z, .ref on])).length) Slot.unset).toArray = ls at hl ⊢
  have hl : lv_has ls 5 [(0, .ref o), (1, .ref ka), (2, .int lv), (3, .ref z), (4, .ref on)] := hl
  refine lv_aload_n hx hb d_B_init_0 rfl (lv_at hl 0 rfl) ?_
  refine lv_aload_n hx hb d_B_init_1 rfl (lv_at hl 1 rfl) ?_
  refine lv_iload_n hx hb d_B_init_2 rfl (lv_at hl 2 rfl) ?_
  refine ht_cv HW (va_runI (own := R_B) (As := [.ref ka, .int lv]) (rest := []) ⟨hx, hb, hml, hown, htb⟩ (c_N_init_B l g w hO) (cwI 2 htb g_N_init rfl rfl rfl (htb _ wd_6) (htb _ wd_164) (htb _ wd_122) rfl (by decide +kernel) ⟨Nat.le_of_ble_eq_true rfl, Nat.le_of_ble_eq_true rfl⟩) (HW.preS _) rfl rfl hl.1 rfl (lv_room (Nat.le_of_ble_eq_true rfl)) d_B_init_3 ⟨Nat.le_of_ble_eq_true rfl, Nat.le_of_ble_eq_true rfl⟩) (fun u1 H locs pn HW => ?_)
  obtain ⟨qh, hq_qh, eu1⟩ := pn
  have n_o_qh : o ≠ qh := fun z9 => hq_qh (by rw [← z9]; exact hO.1)
  have hO : ht_at u1 o (.inr (3, [.ref ka, .int lv, .ref qh, .int 0, .null, .null]) : va_E) := by rw [eu1]; exact ht_at_self (ht_at_old hO hq_qh)
  have h_qh : ht_at u1 qh (ht_al g 4 (fun _ => 0)) := by rw [eu1]; exact ht_at_ne ht_at_new n_o_qh.symm
  refine lv_aload_n hx hb d_B_init_6 rfl (lv_at hl 0 rfl) ?_
  refine lv_aload_n hx hb d_B_init_7 rfl (lv_at hl 3 rfl) ?_
  refine ht_put (C := R_B) (T := F_B) (N := 6) (v := .ref z) (ty := .object "HashTree$Node") hx hb htb i_B t_B t_B_ok n_B hown HW hO rfl 4 (by decide) (htb _ wd_165) (fun _ h9 => h9) rfl (by decide +kernel) rfl rfl (Nat.le_of_ble_eq_true rfl) d_B_init_8 (fun H locs HW => ?_)
  have n_qh_o : qh ≠ o := (Ne.symm n_o_qh)
  obtain ⟨u2, hu2⟩ : ∃ zW : ht_W, zW = ht_up u1 o (.inr (3, [.ref ka, .int lv, .ref qh, .int 0, .ref z, .null]) : va_E) := ⟨_, rfl⟩
  have HW : ht_I g s u2 H locs := by rw [hu2]; exact HW
  have hO : ht_at u2 o (.inr (3, [.ref ka, .int lv, .ref qh, .int 0, .ref z, .null]) : va_E) := by rw [hu2]; exact ht_at_self hO
  have h_qh : ht_at u2 qh (ht_al g 4 (fun _ => 0)) := by rw [hu2]; exact ht_at_ne h_qh n_qh_o
  refine lv_aload_n hx hb d_B_init_11 rfl (lv_at hl 0 rfl) ?_
  refine lv_aload hx hb d_B_init_12 (lv_at hl 4 rfl) ?_
  refine ht_put (C := R_B) (T := F_B) (N := 6) (v := .ref on) (ty := .object "HashTree$Node") hx hb htb i_B t_B t_B_ok n_B hown HW hO rfl 5 (by decide) (htb _ wd_167) (fun _ h9 => h9) rfl (by decide +kernel) rfl rfl (Nat.le_of_ble_eq_true rfl) d_B_init_14 (fun H locs HW => ?_)
  obtain ⟨u3, hu3⟩ : ∃ zW : ht_W, zW = ht_up u2 o (.inr (3, [.ref ka, .int lv, .ref qh, .int 0, .ref z, .ref on]) : va_E) := ⟨_, rfl⟩
  have HW : ht_I g s u3 H locs := by rw [hu3]; exact HW
  have hO : ht_at u3 o (.inr (3, [.ref ka, .int lv, .ref qh, .int 0, .ref z, .ref on]) : va_E) := by rw [hu3]; exact ht_at_self hO
  have h_qh : ht_at u3 qh (ht_al g 4 (fun _ => 0)) := by rw [hu3]; exact ht_at_ne h_qh n_qh_o
  exact ht_vret hx hb hr hlocks HW ⟨qh, hq_qh, by rw [hu3, hu2, eu1]; simp only [ht_up_up]⟩ d_B_init_17
set_option maxHeartbeats 4000000 in
set_option maxRecDepth 100000 in
theorem c_D_init (l : Launch) (g : ht_G) (w : ht_W) {o : Nat} (hO : ht_at w o (.inr (1, [.null, .null, .int 0]))) : Met l y_D_init ws_D_init ({ frames := 1, cells := 2, slots := 72, locals := 20 } : Room) (va_Pc [.ref o] (ht_WS g w)) (ht_Qv g (fun u => ∃ wd wa, wd ∉ w.1 ∧ wa ∉ w.1 ∧ wd ≠ wa ∧ u = ht_up (ht_nw (ht_nw w wd (ht_ai g 8 (fun _ => 0))) wa (ht_ai g 64 (fun _ => 0))) o (.inr (1, [.ref wd, .ref wa, .int 0])))) 2 72 (ht_A g) := by
  refine Met.ofW (cc := b_D_init) (maxL := 1) (ret := none) (by decide) rfl ?_
  intro p e s m args below meth c s₁ BB hml hv
  obtain ⟨rfl, HW⟩ := hv
  have HW := ht_I.start HW
  have hx := BB.exec
  have hb := BB.bytes
  have hr := BB.returns
  have hts := atoms_spec (ws := ws_D_init) BB.pre
  have htb : ∀ w ∈ bg, w.before _ s = true := fun w h => hts w (List.mem_cons_of_mem _ h)
  have hown : s.vm.findClass R_D = some m.cls := findClass_of_methodNamed BB.named
  have hlocks := BB.notSynchronized
  have hin : meth.name = "<init>" := (name_of_methodNamed BB.named BB.method).1
  have hl := lv_entry ([.ref o]) (n := 1) (Nat.le_of_ble_eq_true rfl)
  rw [lg_entry_eq]
  generalize (lg_sl ([.ref o]) ++ List.replicate (1 - (lg_sl ([.ref o])).length) Slot.unset).toArray = ls at hl ⊢
  have hl : lv_has ls 1 [(0, .ref o)] := hl
  refine lv_aload_n hx hb d_D_init_0 rfl (lv_at hl 0 rfl) ?_
  refine W.objInit hx hb hown (htb _ wd_25) (htb _ wd_18) (htb _ wc_objectInit) rfl (by rw [hml]; exact hl.1) rfl d_D_init_1 (Nat.le_of_ble_eq_true rfl) (Nat.le_of_ble_eq_true rfl) ?_
  refine W.eq (g2 := F0 m 4 ls []) rfl ?_
  refine lv_aload_n hx hb d_D_init_4 rfl (lv_at hl 0 rfl) ?_
  refine lv_bipush (v := 8) hx hb d_D_init_5 (by decide) ?_
  refine ht_newi (N' := 8) hx hb (htb _ wd_37) HW (by decide) rfl (by decide) (Nat.le_of_ble_eq_true rfl) (Nat.le_of_ble_eq_true rfl) rfl d_D_init_7 (fun wd H hq_wd HW => ?_)
  obtain ⟨u1, hu1⟩ : ∃ zW : ht_W, zW = ht_nw w wd (ht_ai g 8 (fun _ => 0)) := ⟨_, rfl⟩
  have HW := HW.to hu1.symm
  have n_o_wd : o ≠ wd := fun z9 => hq_wd (by rw [← z9]; exact hO.1)
  have hO : ht_at u1 o (.inr (1, [.null, .null, .int 0]) : va_E) := by rw [hu1]; exact ht_at_old hO hq_wd
  have h_wd : ht_at u1 wd (ht_ai g 8 (fun _ => 0)) := by rw [hu1]; exact ht_at_new
  refine ht_putF (C := R_D) (T := F_D) (N := 3) (v := .ref wd) (ty := .array .int) hx hb htb i_D t_D t_D_ok n_D hown HW hO rfl 0 (by decide) (htb _ wd_26) (fun _ h9 => h9) rfl hin rfl (by decide +kernel) rfl rfl (Nat.le_of_ble_eq_true rfl) d_D_init_9 (fun H locs HW => ?_)
  have n_wd_o : wd ≠ o := (Ne.symm n_o_wd)
  obtain ⟨u2, hu2⟩ : ∃ zW : ht_W, zW = ht_up u1 o (.inr (1, [.ref wd, .null, .int 0]) : va_E) := ⟨_, rfl⟩
  have HW : ht_I g s u2 H locs := by rw [hu2]; exact HW
  have hO : ht_at u2 o (.inr (1, [.ref wd, .null, .int 0]) : va_E) := by rw [hu2]; exact ht_at_self hO
  have h_wd : ht_at u2 wd (ht_ai g 8 (fun _ => 0)) := by rw [hu2]; exact ht_at_ne h_wd n_wd_o
  refine lv_aload_n hx hb d_D_init_12 rfl (lv_at hl 0 rfl) ?_
  refine lv_bipush (v := 64) hx hb d_D_init_13 (by decide) ?_
  refine ht_newi (N' := 64) hx hb (htb _ wd_37) HW (by decide) rfl (by decide) (Nat.le_of_ble_eq_true rfl) (Nat.le_of_ble_eq_true rfl) rfl d_D_init_15 (fun wa H hq_wa HW => ?_)
  obtain ⟨u3, hu3⟩ : ∃ zW : ht_W, zW = ht_nw u2 wa (ht_ai g 64 (fun _ => 0)) := ⟨_, rfl⟩
  have HW := HW.to hu3.symm
  have n_o_wa : o ≠ wa := fun z9 => hq_wa (by rw [← z9]; exact hO.1)
  have n_wd_wa : wd ≠ wa := fun z9 => hq_wa (by rw [← z9]; exact h_wd.1)
  have hO : ht_at u3 o (.inr (1, [.ref wd, .null, .int 0]) : va_E) := by rw [hu3]; exact ht_at_old hO hq_wa
  have h_wd : ht_at u3 wd (ht_ai g 8 (fun _ => 0)) := by rw [hu3]; exact ht_at_old h_wd hq_wa
  have h_wa : ht_at u3 wa (ht_ai g 64 (fun _ => 0)) := by rw [hu3]; exact ht_at_new
  refine ht_putF (C := R_D) (T := F_D) (N := 3) (v := .ref wa) (ty := .array .int) hx hb htb i_D t_D t_D_ok n_D hown HW hO rfl 1 (by decide) (htb _ wd_27) (fun _ h9 => h9) rfl hin rfl (by decide +kernel) rfl rfl (Nat.le_of_ble_eq_true rfl) d_D_init_17 (fun H locs HW => ?_)
  have n_wa_o : wa ≠ o := (Ne.symm n_o_wa)
  obtain ⟨u4, hu4⟩ : ∃ zW : ht_W, zW = ht_up u3 o (.inr (1, [.ref wd, .ref wa, .int 0]) : va_E) := ⟨_, rfl⟩
  have HW : ht_I g s u4 H locs := by rw [hu4]; exact HW
  have hO : ht_at u4 o (.inr (1, [.ref wd, .ref wa, .int 0]) : va_E) := by rw [hu4]; exact ht_at_self hO
  have h_wd : ht_at u4 wd (ht_ai g 8 (fun _ => 0)) := by rw [hu4]; exact ht_at_ne h_wd n_wd_o
  have h_wa : ht_at u4 wa (ht_ai g 64 (fun _ => 0)) := by rw [hu4]; exact ht_at_ne h_wa n_wa_o
  refine lv_aload_n hx hb d_D_init_20 rfl (lv_at hl 0 rfl) ?_
  refine lv_iconst (v := 0) hx hb d_D_init_21 (by decide) ?_
  refine ht_put (C := R_D) (T := F_D) (N := 3) (v := .int 0) (ty := .int) hx hb htb i_D t_D t_D_ok n_D hown HW hO rfl 2 (by decide) (htb _ wd_28) (fun _ h9 => h9) rfl (by decide +kernel) rfl rfl (Nat.le_of_ble_eq_true rfl) d_D_init_22 (fun H locs HW => ?_)
  obtain ⟨u5, hu5⟩ : ∃ zW : ht_W, zW = ht_up u4 o (.inr (1, [.ref wd, .ref wa, .int 0]) : va_E) := ⟨_, rfl⟩
  have HW : ht_I g s u5 H locs := by rw [hu5]; exact HW
  have hO : ht_at u5 o (.inr (1, [.ref wd, .ref wa, .int 0]) : va_E) := by rw [hu5]; exact ht_at_self hO
  have h_wd : ht_at u5 wd (ht_ai g 8 (fun _ => 0)) := by rw [hu5]; exact ht_at_ne h_wd n_wd_o
  have h_wa : ht_at u5 wa (ht_ai g 64 (fun _ => 0)) := by rw [hu5]; exact ht_at_ne h_wa n_wa_o
  have hwa2 := hq_wa
  rw [hu2, hu1] at hwa2
  have hwa3 := ht_notin (w := w) (q := wd) (e := ht_ai g 8 (fun _ => 0)) hwa2
  exact ht_vret hx hb hr hlocks HW ⟨wd, wa, hq_wd, hwa3.1, hwa3.2, by rw [hu5, hu4, hu3, hu2, hu1, ht_nw_up n_o_wa]; simp only [ht_up_up]⟩ d_D_init_25
def ht_isn (i : Int32) : Prop := ∃ j : Nat, j < 4 ∧ i = nI j
set_option maxHeartbeats 4000000 in
set_option maxRecDepth 100000 in
theorem c_X_isNumber (l : Launch) (g : ht_G) (w : ht_W) (i : Int32) : Met l y_X_isNumber ws_X_isNumber ({ frames := 0, cells := 0, slots := 0, locals := 0 } : Room) (va_Pc [.int i] (ht_WS g w)) (ht_Qi g (fun r u => ((ht_isn i → r = 1) ∧ (¬ ht_isn i → r = 0)) ∧ w = u)) 0 0 (ht_A g) := by
  refine Met.ofW (cc := b_X_isNumber) (maxL := 1) (ret := (some .boolean)) (by decide) rfl ?_
  intro p e s m args below meth c s₁ BB hml hv
  obtain ⟨rfl, HW⟩ := hv
  have HW := ht_I.start HW
  have hx := BB.exec
  have hb := BB.bytes
  have hr := BB.returns
  have hts := atoms_spec (ws := ws_X_isNumber) BB.pre
  have htb : ∀ w ∈ bg, w.before _ s = true := fun w h => hts w (List.mem_cons_of_mem _ h)
  have hown : s.vm.findClass R_X = some m.cls := findClass_of_methodNamed BB.named
  have hlocks := BB.notSynchronized
  have hl := lv_entry ([.int i]) (n := 1) (Nat.le_of_ble_eq_true rfl)
  rw [lg_entry_eq]
  generalize (lg_sl ([.int i]) ++ List.replicate (1 - (lg_sl ([.int i])).length) Slot.unset).toArray = ls at hl ⊢
  have hl : lv_has ls 1 [(0, .int i)] := hl
  refine lv_iload_n hx hb d_X_isNumber_0 rfl (lv_at hl 0 rfl) ?_
  refine lv_if_lt (tgt := 13) hx hb d_X_isNumber_1 (by decide) (fun c1 => ?_) (fun c1 => ?_)
  · have hn : ¬ ht_isn i := fun ⟨j, hj, e9⟩ => nI_pos (n := j) (by omega) (by rw [← e9]; exact c1)
    refine lv_iconst (v := 0) hx hb d_X_isNumber_13 (by decide) ?_
    exact ht_zret hx hb hr hlocks HW (by rfl) ⟨⟨fun q => absurd q hn, fun _ => rfl⟩, rfl⟩ d_X_isNumber_14
  · refine lv_iload_n hx hb d_X_isNumber_4 rfl (lv_at hl 0 rfl) ?_
    refine lv_iconst (v := 4) hx hb d_X_isNumber_5 (by decide) ?_
    refine lv_icmp_ge (tgt := 13) hx hb d_X_isNumber_6 (by decide) (fun c6 => ?_) (fun c6 => ?_)
    · have hn : ¬ ht_isn i := fun ⟨j, hj, e9⟩ => nI_ge (b := 4) hj (by omega) (by rw [← e9]; exact c6)
      refine lv_iconst (v := 0) hx hb d_X_isNumber_13 (by decide) ?_
      exact ht_zret hx hb hr hlocks HW (by rfl) ⟨⟨fun q => absurd q hn, fun _ => rfl⟩, rfl⟩ d_X_isNumber_14
    · refine lv_iconst (v := 1) hx hb d_X_isNumber_9 (by decide) ?_
      refine lv_goto (tgt := 14) hx hb d_X_isNumber_10 (by decide) ?_
      have hn : ht_isn i := by
        obtain ⟨j, hj, rfl⟩ := nI_of c1
        exact ⟨j, Nat.not_le.mp (fun q => c6 (nI_le (a := 4) q (by omega))), rfl⟩
      exact ht_zret hx hb hr hlocks HW (by rfl) ⟨⟨fun _ => rfl, fun q => absurd hn q⟩, rfl⟩ d_X_isNumber_14
set_option maxHeartbeats 4000000 in
set_option maxRecDepth 100000 in
theorem c_X_fill (l : Launch) (g : ht_G) (w : ht_W) {a : Nat} {f0 : Nat → Int64} (hA : ht_at w a (ht_al g 4 f0)) (k1 k2 k3 k4 : Int64) : Met l y_X_fill ws_X_fill ({ frames := 0, cells := 0, slots := 0, locals := 0 } : Room) (va_Pc [.ref a, .long k1, .long k2, .long k3, .long k4] (ht_WS g w)) (ht_Qv g (fun u => u = ht_up w a (ht_al g 4 (ht_kf (k1, k2, k3, k4))))) 0 0 (ht_A g) := by
  refine Met.ofW (cc := b_X_fill) (maxL := 9) (ret := none) (by decide) rfl ?_
  intro p e s m args below meth c s₁ BB hml hv
  obtain ⟨rfl, HW⟩ := hv
  have HW := ht_I.start HW
  have hx := BB.exec
  have hb := BB.bytes
  have hr := BB.returns
  have hts := atoms_spec (ws := ws_X_fill) BB.pre
  have htb : ∀ w ∈ bg, w.before _ s = true := fun w h => hts w (List.mem_cons_of_mem _ h)
  have hown : s.vm.findClass R_X = some m.cls := findClass_of_methodNamed BB.named
  have hlocks := BB.notSynchronized
  have hl := lv_entry ([.ref a, .long k1, .long k2, .long k3, .long k4]) (n := 9) (Nat.le_of_ble_eq_true rfl)
  rw [lg_entry_eq]
  generalize (lg_sl ([.ref a, .long k1, .long k2, .long k3, .long k4]) ++ List.replicate (9 - (lg_sl ([.ref a, .long k1, .long k2, .long k3, .long k4])).length) Slot.unset).toArray = ls at hl ⊢
  have hl : lv_has ls 9 [(0, .ref a), (1, .long k1), (3, .long k2), (5, .long k3), (7, .long k4)] := hl
  refine lv_aload_n hx hb d_X_fill_0 rfl (lv_at hl 0 rfl) ?_
  refine lv_iconst (v := 0) hx hb d_X_fill_1 (by decide) ?_
  refine lv_lload_n hx hb d_X_fill_2 rfl (lv_at hl 1 rfl) ?_
  refine ht_last hx hb HW hA (by unfold vp_in; decide) d_X_fill_3 (fun H locs HW => ?_)
  obtain ⟨u1, hu1⟩ : ∃ zW : ht_W, zW = ht_up w a (ht_al g 4 (vp_updL f0 0 k1)) := ⟨_, rfl⟩
  have HW : ht_I g s u1 H locs := by rw [hu1]; exact HW
  have hA : ht_at u1 a (ht_al g 4 (vp_updL f0 0 k1)) := by rw [hu1]; exact ht_at_self hA
  refine lv_aload_n hx hb d_X_fill_4 rfl (lv_at hl 0 rfl) ?_
  refine lv_iconst (v := 1) hx hb d_X_fill_5 (by decide) ?_
  refine lv_lload_n hx hb d_X_fill_6 rfl (lv_at hl 2 rfl) ?_
  refine ht_last hx hb HW hA (by unfold vp_in; decide) d_X_fill_7 (fun H locs HW => ?_)
  obtain ⟨u2, hu2⟩ : ∃ zW : ht_W, zW = ht_up u1 a (ht_al g 4 (vp_updL (vp_updL f0 0 k1) 1 k2)) := ⟨_, rfl⟩
  have HW : ht_I g s u2 H locs := by rw [hu2]; exact HW
  have hA : ht_at u2 a (ht_al g 4 (vp_updL (vp_updL f0 0 k1) 1 k2)) := by rw [hu2]; exact ht_at_self hA
  refine lv_aload_n hx hb d_X_fill_8 rfl (lv_at hl 0 rfl) ?_
  refine lv_iconst (v := 2) hx hb d_X_fill_9 (by decide) ?_
  refine lv_lload hx hb d_X_fill_10 (lv_at hl 3 rfl) ?_
  refine ht_last hx hb HW hA (by unfold vp_in; decide) d_X_fill_12 (fun H locs HW => ?_)
  obtain ⟨u3, hu3⟩ : ∃ zW : ht_W, zW = ht_up u2 a (ht_al g 4 (vp_updL (vp_updL (vp_updL f0 0 k1) 1 k2) 2 k3)) := ⟨_, rfl⟩
  have HW : ht_I g s u3 H locs := by rw [hu3]; exact HW
  have hA : ht_at u3 a (ht_al g 4 (vp_updL (vp_updL (vp_updL f0 0 k1) 1 k2) 2 k3)) := by rw [hu3]; exact ht_at_self hA
  refine lv_aload_n hx hb d_X_fill_13 rfl (lv_at hl 0 rfl) ?_
  refine lv_iconst (v := 3) hx hb d_X_fill_14 (by decide) ?_
  refine lv_lload hx hb d_X_fill_15 (lv_at hl 4 rfl) ?_
  refine ht_last hx hb HW hA (by unfold vp_in; decide) d_X_fill_17 (fun H locs HW => ?_)
  obtain ⟨u4, hu4⟩ : ∃ zW : ht_W, zW = ht_up u3 a (ht_al g 4 (vp_updL (vp_updL (vp_updL (vp_updL f0 0 k1) 1 k2) 2 k3) 3 k4)) := ⟨_, rfl⟩
  have HW : ht_I g s u4 H locs := by rw [hu4]; exact HW
  have hA : ht_at u4 a (ht_al g 4 (vp_updL (vp_updL (vp_updL (vp_updL f0 0 k1) 1 k2) 2 k3) 3 k4)) := by rw [hu4]; exact ht_at_self hA
  rw [hu4, hu3, hu2, hu1] at HW
  simp only [ht_up_up] at HW
  have HW := HW.cg (ht_eqv_l (f' := ht_kf (k1, k2, k3, k4)) (fun j hj => by rcases (show j = 0 ∨ j = 1 ∨ j = 2 ∨ j = 3 by omega) with rfl | rfl | rfl | rfl <;> rfl))
  exact ht_vret hx hb hr hlocks HW rfl d_X_fill_18
end
section
/-! The class's own cells. -/
abbrev ht_AA : Type := Nat → Nat × Nat × Nat
/-- the nodes F stand in the pool as N says; A has a node's rows: key, hash, value -/
def ht_Nd (g : ht_G) (w : ht_W) (N : ht_N) (A : ht_AA) (F : List Nat) : Prop := ∀ a ∈ F, ht_at w a (ht_nc (N a) (A a).1 (A a).2.1 (A a).2.2) ∧ ht_at w (A a).1 (ht_al g 4 (ht_kf (ht_rk (N a)))) ∧ ht_at w (A a).2.1 (ht_al g 4 (ht_kf (ht_rh (N a)))) ∧ ∀ v, ht_rp (N a) = .inl v → ht_at w (A a).2.2 (ht_al g 4 (ht_kf v))
/-- outside S nothing has changed, nothing has gone -/
def ht_fr (S : Nat → Prop) (w u : ht_W) : Prop := ∀ b ∈ w.1, ¬ S b → b ∈ u.1 ∧ u.2 b = w.2 b
theorem ht_fr.rf {S : Nat → Prop} {w : ht_W} : ht_fr S w w := fun _ h _ => ⟨h, rfl⟩
theorem ht_fr.at {S : Nat → Prop} {w u : ht_W} {b : Nat} {e : va_E} (h : ht_fr S w u) (hb : ht_at w b e) (hn : ¬ S b) : ht_at u b e := ⟨(h b hb.1 hn).1, (h b hb.1 hn).2.trans hb.2⟩
theorem ht_fr.trans {S : Nat → Prop} {w u v : ht_W} (h : ht_fr S w u) (h' : ht_fr S u v) : ht_fr S w v := fun b hb hn => ⟨(h' b (h b hb hn).1 hn).1, ((h' b (h b hb hn).1 hn).2).trans (h b hb hn).2⟩
theorem ht_fr.mono {S S' : Nat → Prop} {w u : ht_W} (h : ht_fr S w u) (hs : ∀ b, S b → S' b) : ht_fr S' w u := fun b hb hn => h b hb (fun q => hn (hs b q))
theorem ht_fr.up {S : Nat → Prop} {w : ht_W} {a : Nat} {e : va_E} (h : S a) : ht_fr S w (ht_up w a e) := fun b hb hn => ⟨hb, va_up_ne _ _ (fun z => hn (z ▸ h))⟩
theorem ht_fr.nw {S : Nat → Prop} {w : ht_W} {a : Nat} {e : va_E} (h : a ∉ w.1) : ht_fr S w (ht_nw w a e) := fun b hb _ => ⟨List.mem_append_left _ hb, va_up_ne _ _ (fun z => h (z ▸ hb))⟩
theorem ht_ne_nl {r : ht_R} {ka ha va n : Nat} {g : ht_G} {f : Nat → Int64} : ht_al g n f ≠ ht_nc r ka ha va := by
  unfold ht_nc
  cases ht_rp r <;> exact fun z => by cases z
theorem ht_ne_n0 {r : ht_R} {ka ha va : Nat} {fs : List Value} : (.inr (0, fs) : va_E) ≠ ht_nc r ka ha va := by
  unfold ht_nc
  cases ht_rp r <;> exact fun z => by cases z
theorem ht_Nd.x {g : ht_G} {w : ht_W} {N : ht_N} {A : ht_AA} {F : List Nat} (h : ht_Nd g w N A F) {x : Nat} {fs : List Value} (hx : ht_at w x (.inr (0, fs))) : x ∉ F := fun q => ht_ne hx (h x q).1 ht_ne_n0 rfl
theorem ht_Nd.l {g : ht_G} {w : ht_W} {N : ht_N} {A : ht_AA} {F : List Nat} (h : ht_Nd g w N A F) {x n : Nat} {f : Nat → Int64} (hx : ht_at w x (ht_al g n f)) : x ∉ F := fun q => ht_ne hx (h x q).1 ht_ne_nl rfl
theorem ht_Nd.lf {g : ht_G} {w : ht_W} {N : ht_N} {A : ht_AA} {F : List Nat} (h : ht_Nd g w N A F) {a : Nat} (ha : a ∈ F) {v : ht_K} (hp : ht_rp (N a) = .inl v) : ht_at w a (.inr (2, [.ref (A a).1, .int (nI (ht_rl (N a))), .ref (A a).2.1, .int (ht_b1 (ht_rf (N a))), .ref (A a).2.2])) := by
  rw [← ht_nc_l hp]
  exact (h a ha).1
theorem ht_Nd.br {g : ht_G} {w : ht_W} {N : ht_N} {A : ht_AA} {F : List Nat} (h : ht_Nd g w N A F) {a : Nat} (ha : a ∈ F) {zo : Nat × Nat} (hp : ht_rp (N a) = .inr zo) : ht_at w a (.inr (3, [.ref (A a).1, .int (nI (ht_rl (N a))), .ref (A a).2.1, .int (ht_b1 (ht_rf (N a))), .ref zo.1, .ref zo.2])) := by
  rw [← ht_nc_b hp]
  exact (h a ha).1
/-- a node's flag changes -/
theorem ht_Nd.sf {g : ht_G} {w : ht_W} {N : ht_N} {A : ht_AA} {F : List Nat} (h : ht_Nd g w N A F) {c : Nat} (hc : c ∈ F) (b : Bool) : ht_Nd g (ht_up w c (ht_nc (ht_sf (N c) b) (A c).1 (A c).2.1 (A c).2.2)) (va_up N c (ht_sf (N c) b)) A F := by
  intro a ha
  obtain ⟨h1, h2, h3, h4⟩ := h a ha
  have n1 : (A a).1 ≠ c := fun z => h.l h2 (by rw [z]; exact hc)
  have n2 : (A a).2.1 ≠ c := fun z => h.l h3 (by rw [z]; exact hc)
  by_cases e : a = c
  · subst e
    rw [va_up_self]
    exact ⟨ht_at_self h1, ht_at_ne h2 n1, ht_at_ne h3 n2, fun v hv => ht_at_ne (h4 v hv) (fun z => h.l (h4 v hv) (by rw [z]; exact hc))⟩
  · rw [va_up_ne _ _ e]
    exact ⟨ht_at_ne h1 e, ht_at_ne h2 n1, ht_at_ne h3 n2, fun v hv => ht_at_ne (h4 v hv) (fun z => h.l (h4 v hv) (by rw [z]; exact hc))⟩
set_option maxHeartbeats 4000000 in
set_option maxRecDepth 100000 in
theorem c_X_nearestLeaf (l : Launch) (g : ht_G) (w : ht_W) {x kA dg op sb la en : Nat} {top : Option Nat} {cnt ei : Int32} {k : ht_K} {N : ht_N} {A : ht_AA} {F : List Nat} {L : ht_L} (hX : ht_at w x (.inr (0, [.ref kA, .ref dg, .ref op, va_rf top, .int cnt, .ref sb, .ref la, .ref en, .int ei]))) (hK : ht_at w kA (ht_al g 4 (ht_kf k))) (hN : ht_Nd g w N A F) (hT : ht_T N F top L) : Met l y_X_nearestLeaf ws_X_nearestLeaf ({ frames := 1, cells := 0, slots := 0, locals := 30 } : Room) (va_Pc [.ref x] (ht_WS g w)) (ht_Qq g (fun r u => ((r = none ∧ top = none) ∨ ∃ b v, r = some b ∧ b ∈ F ∧ ht_rp (N b) = .inl v ∧ ∀ q ∈ L, ht_part k q.1 ≤ ht_part k (ht_rk (N b))) ∧ w = u)) 0 0 (ht_A g) := by
  refine Met.ofW (cc := b_X_nearestLeaf) (maxL := 3) (ret := (some (.object "HashTree$Leaf"))) (by decide) rfl ?_
  intro p e s m args below meth c s₁ BB hml hv
  obtain ⟨rfl, HW⟩ := hv
  have HW := ht_I.start HW
  have hx := BB.exec
  have hb := BB.bytes
  have hr := BB.returns
  have hts := atoms_spec (ws := ws_X_nearestLeaf) BB.pre
  have htb : ∀ w ∈ bg, w.before _ s = true := fun w h => hts w (List.mem_cons_of_mem _ h)
  have hown : s.vm.findClass R_X = some m.cls := findClass_of_methodNamed BB.named
  have hlocks := BB.notSynchronized
  have hl := lv_entry ([.ref x]) (n := 3) (Nat.le_of_ble_eq_true rfl)
  rw [lg_entry_eq]
  generalize (lg_sl ([.ref x]) ++ List.replicate (3 - (lg_sl ([.ref x])).length) Slot.unset).toArray = ls at hl ⊢
  have hl : lv_has ls 3 [(0, .ref x)] := hl
  have loop : ∀ (n a : Nat), a ∈ F → ht_best N L k a → 256 ≤ ht_rl (N a) + n → ∀ (H : Heap) (locs : List Loc) (ls : Array Slot), ht_I g s w H locs → lv_has ls 3 [(0, .ref x), (1, .ref a)] → W p l e (headSpec ws_X_nearestLeaf ({ frames := 1, cells := 0, slots := 0, locals := 30 } : Room)).room s m ([.ref x] : List Value).toArray below meth c H locs 0 0 (MQ below (ht_Qq g (fun r u => ((r = none ∧ top = none) ∨ ∃ b v, r = some b ∧ b ∈ F ∧ ht_rp (N b) = .inl v ∧ ∀ q ∈ L, ht_part k q.1 ≤ ht_part k (ht_rk (N b))) ∧ w = u)) ([.ref x] : List Value).toArray s 0 0 (ht_A g)) (F0 m 5 ls []) := by
    intro n
    induction n with
    | zero =>
      intro a ha hbest hn H locs ls HW hl
      cases hp : ht_rp (N a) with
      | inl v =>
        have hla := hN.lf ha hp
        refine lv_aload_n hx hb d_X_nearestLeaf_5 rfl (lv_at hl 1 rfl) ?_
        refine va_instNo hx hb hown (htb _ wd_87) HW.2.2.1.2.2.2.2.2.2.2.1 (HW.recv hla (q := (R_L, F_L, 5)) rfl) d_X_nearestLeaf_6 ?_
        refine lv_if_eq (tgt := 36) hx hb d_X_nearestLeaf_9 (by decide) (fun c9 => ?_) (fun c9 => ?_)
        · refine lv_aload_n hx hb d_X_nearestLeaf_36 rfl (lv_at hl 1 rfl) ?_
          refine va_instS hx hb hown (htb _ wd_95) (HW.2.1.1 2 _ rfl).2 (HW.recv hla (q := (R_L, F_L, 5)) rfl) d_X_nearestLeaf_37 ?_
          refine lv_if_eq (tgt := 52) hx hb d_X_nearestLeaf_40 (by decide) (fun c40 => ?_) (fun c40 => ?_)
          · exact absurd c40 (by decide)
          · refine lv_aload_n hx hb d_X_nearestLeaf_43 rfl (lv_at hl 1 rfl) ?_
            refine va_castS hx hb hown (htb _ wd_95) (HW.2.1.1 2 _ rfl).2 (HW.recv hla (q := (R_L, F_L, 5)) rfl) d_X_nearestLeaf_44 ?_
            refine lv_astore_n (lv' := [(2, .ref a), (0, .ref x), (1, .ref a)]) hx hb d_X_nearestLeaf_47 rfl hl (by decide) rfl (fun ls hl => ?_)
            refine lv_aload_n hx hb d_X_nearestLeaf_48 rfl (lv_at hl 0 rfl) ?_
            refine lv_goto (tgt := 53) hx hb d_X_nearestLeaf_49 (by decide) ?_
            exact ht_qret (r := some a) hx hb hr hlocks HW ⟨Or.inr ⟨a, v, rfl, ha, hp, hT.bestE ha hp hbest⟩, rfl⟩ d_X_nearestLeaf_53
        · exact absurd rfl c9
      | inr zo =>
        have := (hT.half ha hp false).2.1
        omega
    | succ n ih =>
      intro a ha hbest hn H locs ls HW hl
      cases hp : ht_rp (N a) with
      | inl v =>
        have hla := hN.lf ha hp
        refine lv_aload_n hx hb d_X_nearestLeaf_5 rfl (lv_at hl 1 rfl) ?_
        refine va_instNo hx hb hown (htb _ wd_87) HW.2.2.1.2.2.2.2.2.2.2.1 (HW.recv hla (q := (R_L, F_L, 5)) rfl) d_X_nearestLeaf_6 ?_
        refine lv_if_eq (tgt := 36) hx hb d_X_nearestLeaf_9 (by decide) (fun c9 => ?_) (fun c9 => ?_)
        · refine lv_aload_n hx hb d_X_nearestLeaf_36 rfl (lv_at hl 1 rfl) ?_
          refine va_instS hx hb hown (htb _ wd_95) (HW.2.1.1 2 _ rfl).2 (HW.recv hla (q := (R_L, F_L, 5)) rfl) d_X_nearestLeaf_37 ?_
          refine lv_if_eq (tgt := 52) hx hb d_X_nearestLeaf_40 (by decide) (fun c40 => ?_) (fun c40 => ?_)
          · exact absurd c40 (by decide)
          · refine lv_aload_n hx hb d_X_nearestLeaf_43 rfl (lv_at hl 1 rfl) ?_
            refine va_castS hx hb hown (htb _ wd_95) (HW.2.1.1 2 _ rfl).2 (HW.recv hla (q := (R_L, F_L, 5)) rfl) d_X_nearestLeaf_44 ?_
            refine lv_astore_n (lv' := [(2, .ref a), (0, .ref x), (1, .ref a)]) hx hb d_X_nearestLeaf_47 rfl hl (by decide) rfl (fun ls hl => ?_)
            refine lv_aload_n hx hb d_X_nearestLeaf_48 rfl (lv_at hl 0 rfl) ?_
            refine lv_goto (tgt := 53) hx hb d_X_nearestLeaf_49 (by decide) ?_
            exact ht_qret (r := some a) hx hb hr hlocks HW ⟨Or.inr ⟨a, v, rfl, ha, hp, hT.bestE ha hp hbest⟩, rfl⟩ d_X_nearestLeaf_53
        · exact absurd rfl c9
      | inr zo =>
        have hla := hN.br ha hp
        have hz := hT.half ha hp (ht_bit k (ht_rl (N a)))
        have h256 := hz.2.1
        refine lv_aload_n hx hb d_X_nearestLeaf_5 rfl (lv_at hl 1 rfl) ?_
        refine va_instS hx hb hown (htb _ wd_87) (HW.2.1.1 3 _ rfl).2 (HW.recv hla (q := (R_B, F_B, 6)) rfl) d_X_nearestLeaf_6 ?_
        refine lv_if_eq (tgt := 36) hx hb d_X_nearestLeaf_9 (by decide) (fun c9 => ?_) (fun c9 => ?_)
        · exact absurd c9 (by decide)
        · refine lv_aload_n hx hb d_X_nearestLeaf_12 rfl (lv_at hl 1 rfl) ?_
          refine va_castS hx hb hown (htb _ wd_87) (HW.2.1.1 3 _ rfl).2 (HW.recv hla (q := (R_B, F_B, 6)) rfl) d_X_nearestLeaf_13 ?_
          refine lv_astore_n (lv' := [(2, .ref a), (0, .ref x), (1, .ref a)]) hx hb d_X_nearestLeaf_16 rfl hl (by decide) rfl (fun ls hl => ?_)
          refine lv_aload_n hx hb d_X_nearestLeaf_17 rfl (lv_at hl 0 rfl) ?_
          refine lv_aload_n hx hb d_X_nearestLeaf_18 rfl (lv_at hl 1 rfl) ?_
          refine ht_get (C := R_X) (T := F_X) (N := 9) (v := .ref kA) hx hb htb i_X hown HW hX rfl 0 (by decide) (htb _ wd_40) (fun _ h9 => h9) rfl d_X_nearestLeaf_19 ?_
          refine lv_aload_n hx hb d_X_nearestLeaf_22 rfl (lv_at hl 0 rfl) ?_
          refine ht_get (C := R_B) (T := F_B) (N := 6) (v := .int (nI (ht_rl (N a)))) hx hb htb i_B hown HW hla rfl 1 (by decide) (htb _ wd_133) (fun x h9 => u_same (htb _ wd_134) x h9) rfl d_X_nearestLeaf_23 ?_
          refine ht_ci HW (va_runS (own := R_X) (As := [.ref kA, .int (nI (ht_rl (N a)))]) (rest := [.ref a]) ⟨hx, hb, hml, hown, htb⟩ (c_X_isOne l g w hK (ht_rl (N a)) h256 _ rfl) (va_cwS 2 htb (ht_gs wd_88 wd_89 wd_1 g_X_isOne) rfl rfl rfl (by decide +kernel) ⟨Nat.le_of_ble_eq_true rfl, Nat.le_of_ble_eq_true rfl⟩) (HW.preS _) rfl rfl hl.1 rfl (lv_room (Nat.le_of_ble_eq_true rfl)) d_X_nearestLeaf_26 ⟨Nat.le_of_ble_eq_true rfl, Nat.le_of_ble_eq_true rfl⟩) (fun q2 u1 H locs pu1 HW => ?_)
          obtain ⟨eq2, eu1⟩ := pu1
          subst eu1
          rw [eq2]
          refine ht_cq HW (va_runV (own := R_X) (C := R_B) (As := [.int (ht_b1 (ht_bit k (ht_rl (N a))))]) (rest := []) ⟨hx, hb, hml, hown, htb⟩ (c_B_half l g w hla (ht_bit k (ht_rl (N a)))) (cwV 1 htb (ht_gv wd_91 wd_92 wd_93 wd_8 g_B_half) rfl rfl rfl (by decide +kernel) ⟨Nat.le_of_ble_eq_true rfl, Nat.le_of_ble_eq_true rfl⟩) (HW.preV hla rfl _) rfl rfl hl.1 rfl (lv_room (Nat.le_of_ble_eq_true rfl)) d_X_nearestLeaf_29 ⟨Nat.le_of_ble_eq_true rfl, Nat.le_of_ble_eq_true rfl⟩) (fun q4 u3 H locs ph HW => ?_)
          obtain ⟨eh, eww⟩ := ph
          subst eww
          subst eh
          refine W.eq (g2 := F0 m 32 ls [.ref (ht_ch zo (ht_bit k (ht_rl (N a))))]) rfl ?_
          refine lv_astore_n (lv' := [(1, .ref (ht_ch zo (ht_bit k (ht_rl (N a))))), (2, .ref a), (0, .ref x)]) hx hb d_X_nearestLeaf_32 rfl hl (by decide) rfl (fun ls hl => ?_)
          refine lv_goto (tgt := 5) hx hb d_X_nearestLeaf_33 (by decide) ?_
          exact ih _ hz.1 (hT.bestS ha hp hbest) (by have := hz.2.2.1; omega) _ _ _ HW (lv_sub hl [2, 0] rfl)
  cases top with
  | none =>
    refine lv_aload_n hx hb d_X_nearestLeaf_0 rfl (lv_at hl 0 rfl) ?_
    refine ht_get (C := R_X) (T := F_X) (N := 9) (v := .null) hx hb htb i_X hown HW hX rfl 3 (by decide) (htb _ wd_43) (fun _ h9 => h9) rfl d_X_nearestLeaf_1 ?_
    refine lv_astore_nN (lv' := [(1, .null), (0, .ref x)]) hx hb d_X_nearestLeaf_4 rfl hl (by decide) rfl (fun ls hl => ?_)
    refine lv_aload_nN hx hb d_X_nearestLeaf_5 rfl (lv_at hl 0 rfl) ?_
    refine lv_instN hx hb d_X_nearestLeaf_6 ?_
    refine lv_if_eq (tgt := 36) hx hb d_X_nearestLeaf_9 (by decide) (fun c9 => ?_) (fun c9 => ?_)
    · refine lv_aload_nN hx hb d_X_nearestLeaf_36 rfl (lv_at hl 0 rfl) ?_
      refine lv_instN hx hb d_X_nearestLeaf_37 ?_
      refine lv_if_eq (tgt := 52) hx hb d_X_nearestLeaf_40 (by decide) (fun c40 => ?_) (fun c40 => ?_)
      · refine lv_null hx hb d_X_nearestLeaf_52 ?_
        exact ht_qret (r := none) hx hb hr hlocks HW ⟨Or.inl ⟨rfl, rfl⟩, rfl⟩ d_X_nearestLeaf_53
      · exact absurd rfl c40
    · exact absurd rfl c9
  | some t =>
    refine lv_aload_n hx hb d_X_nearestLeaf_0 rfl (lv_at hl 0 rfl) ?_
    refine ht_get (C := R_X) (T := F_X) (N := 9) (v := .ref t) hx hb htb i_X hown HW hX rfl 3 (by decide) (htb _ wd_43) (fun _ h9 => h9) rfl d_X_nearestLeaf_1 ?_
    refine lv_astore_n (lv' := [(1, .ref t), (0, .ref x)]) hx hb d_X_nearestLeaf_4 rfl hl (by decide) rfl (fun ls hl => ?_)
    exact loop 256 t (hT.2.2.1.1 t rfl).1 (hT.best0 k) (by omega) _ _ _ HW (lv_sub hl [1, 0] rfl)
end
section
set_option maxHeartbeats 4000000 in
set_option maxRecDepth 100000 in
theorem c_X_leafOfKey (l : Launch) (g : ht_G) (w : ht_W) {x kA dg op sb la en : Nat} {top : Option Nat} {cnt ei : Int32} {k : ht_K} {N : ht_N} {A : ht_AA} {F : List Nat} {L : ht_L} (hX : ht_at w x (.inr (0, [.ref kA, .ref dg, .ref op, va_rf top, .int cnt, .ref sb, .ref la, .ref en, .int ei]))) (hK : ht_at w kA (ht_al g 4 (ht_kf k))) (hN : ht_Nd g w N A F) (hT : ht_T N F top L) : Met l y_X_leafOfKey ws_X_leafOfKey ({ frames := 3, cells := 0, slots := 0, locals := 80 } : Room) (va_Pc [.ref x] (ht_WS g w)) (ht_Qq g (fun r u => ((r = none ∧ ∀ q ∈ L, q.1 ≠ k) ∨ ∃ b v, r = some b ∧ b ∈ F ∧ ht_rp (N b) = .inl v ∧ ht_rk (N b) = k) ∧ w = u)) 0 0 (ht_A g) := by
  refine Met.ofW (cc := b_X_leafOfKey) (maxL := 2) (ret := (some (.object "HashTree$Leaf"))) (by decide) rfl ?_
  intro p e s m args below meth c s₁ BB hml hv
  obtain ⟨rfl, HW⟩ := hv
  have HW := ht_I.start HW
  have hx := BB.exec
  have hb := BB.bytes
  have hr := BB.returns
  have hts := atoms_spec (ws := ws_X_leafOfKey) BB.pre
  have htb : ∀ w ∈ bg, w.before _ s = true := fun w h => hts w (List.mem_cons_of_mem _ h)
  have hown : s.vm.findClass R_X = some m.cls := findClass_of_methodNamed BB.named
  have hlocks := BB.notSynchronized
  have hl := lv_entry ([.ref x]) (n := 2) (Nat.le_of_ble_eq_true rfl)
  rw [lg_entry_eq]
  generalize (lg_sl ([.ref x]) ++ List.replicate (2 - (lg_sl ([.ref x])).length) Slot.unset).toArray = ls at hl ⊢
  have hl : lv_has ls 2 [(0, .ref x)] := hl
  refine lv_aload_n hx hb d_X_leafOfKey_0 rfl (lv_at hl 0 rfl) ?_
  refine ht_cq HW (va_runV (own := R_X) (C := R_X) (As := []) (rest := []) ⟨hx, hb, hml, hown, htb⟩ (c_X_nearestLeaf l g w hX hK hN hT) (cwV 0 htb (ht_gv wd_83 wd_85 sl_1 wd_1 g_X_nearestLeaf) rfl rfl rfl (by decide +kernel) ⟨Nat.le_of_ble_eq_true rfl, Nat.le_of_ble_eq_true rfl⟩) (HW.preV hX rfl _) rfl rfl hl.1 rfl (lv_room (Nat.le_of_ble_eq_true rfl)) d_X_leafOfKey_1 ⟨Nat.le_of_ble_eq_true rfl, Nat.le_of_ble_eq_true rfl⟩) (fun q2 u1 H locs pn HW => ?_)
  obtain ⟨pn, eww⟩ := pn
  subst eww
  rcases pn with ⟨er, et⟩ | ⟨b, v, er, hbF, hp, hbest⟩
  · subst er
    subst et
    refine W.eq (g2 := F0 m 4 ls [.null]) rfl ?_
    refine lv_astore_nN (lv' := [(1, .null), (0, .ref x)]) hx hb d_X_leafOfKey_4 rfl hl (by decide) rfl (fun ls hl => ?_)
    refine lv_aload_nN hx hb d_X_leafOfKey_5 rfl (lv_at hl 0 rfl) ?_
    refine lv_ifnullN (tgt := 30) hx hb d_X_leafOfKey_6 (by decide) ?_
    refine lv_null hx hb d_X_leafOfKey_30 ?_
    exact ht_qret (r := none) hx hb hr hlocks HW ⟨Or.inl ⟨rfl, fun q hq => by rw [(hT.2.2.1.2 rfl).2] at hq; cases hq⟩, rfl⟩ d_X_leafOfKey_31
  · subst er
    refine W.eq (g2 := F0 m 4 ls [.ref b]) rfl ?_
    have hlb := hN.lf hbF hp
    have hkb := (hN b hbF).2.1
    refine lv_astore_n (lv' := [(1, .ref b), (0, .ref x)]) hx hb d_X_leafOfKey_4 rfl hl (by decide) rfl (fun ls hl => ?_)
    refine lv_aload_n hx hb d_X_leafOfKey_5 rfl (lv_at hl 0 rfl) ?_
    refine lv_ifnull hx hb d_X_leafOfKey_6 ?_
    refine lv_aload_n hx hb d_X_leafOfKey_9 rfl (lv_at hl 1 rfl) ?_
    refine ht_get (C := R_X) (T := F_X) (N := 9) (v := .ref kA) hx hb htb i_X hown HW hX rfl 0 (by decide) (htb _ wd_40) (fun _ h9 => h9) rfl d_X_leafOfKey_10 ?_
    refine lv_aload_n hx hb d_X_leafOfKey_13 rfl (lv_at hl 0 rfl) ?_
    refine ht_get (C := R_L) (T := F_L) (N := 5) (v := .ref (A b).1) hx hb htb i_L hown HW hlb rfl 0 (by decide) (htb _ wd_128) (fun x h9 => u_same (htb _ wd_129) x h9) rfl d_X_leafOfKey_14 ?_
    refine ht_ci HW (va_runS (own := R_X) (As := [.ref kA, .ref (A b).1]) (rest := []) ⟨hx, hb, hml, hown, htb⟩ (c_X_partingLevel l g w hK hkb) (va_cwS 2 htb (ht_gs wd_96 wd_97 wd_1 g_X_partingLevel) rfl rfl rfl (by decide +kernel) ⟨Nat.le_of_ble_eq_true rfl, Nat.le_of_ble_eq_true rfl⟩) (HW.preS _) rfl rfl hl.1 rfl (lv_room (Nat.le_of_ble_eq_true rfl)) d_X_leafOfKey_17 ⟨Nat.le_of_ble_eq_true rfl, Nat.le_of_ble_eq_true rfl⟩) (fun q4 u3 H locs pu3 HW => ?_)
    obtain ⟨eq4, eu3⟩ := pu3
    subst eu3
    refine lv_sipush (v := 256) hx hb d_X_leafOfKey_20 (by decide) ?_
    refine lv_icmp_ne (tgt := 30) hx hb d_X_leafOfKey_23 (by decide) (fun c23 => ?_) (fun c23 => ?_)
    · have hne : ¬ ht_part k (ht_rk (N b)) = 256 := fun q9 => c23 (by rw [eq4, q9]; rfl)
      refine lv_null hx hb d_X_leafOfKey_30 ?_
      exact ht_qret (r := none) hx hb hr hlocks HW ⟨Or.inl ⟨rfl, fun q hq e9 => hne (Nat.le_antisymm (ht_part_le _ _) (by have h9 := hbest q hq; rw [ht_part_eq.mpr e9.symm] at h9; exact h9))⟩, rfl⟩ d_X_leafOfKey_31
    · have heq : ht_part k (ht_rk (N b)) = 256 := by
        rw [eq4] at c23
        exact (nI_eq (by have := ht_part_le k (ht_rk (N b)); omega) (by omega)).mp c23
      refine lv_aload_n hx hb d_X_leafOfKey_26 rfl (lv_at hl 0 rfl) ?_
      refine lv_goto (tgt := 31) hx hb d_X_leafOfKey_27 (by decide) ?_
      exact ht_qret (r := some b) hx hb hr hlocks HW ⟨Or.inr ⟨b, v, rfl, hbF, hp, (ht_part_eq.mp heq).symm⟩, rfl⟩ d_X_leafOfKey_31
end
section
/-- the branches on a key's way that part keys before level b have been marked; nothing else has changed -/
def ht_mkd (N : ht_N) (F : List Nat) (k : ht_K) (b : Nat) (N' : ht_N) : Prop := (∀ a, N' a = N a ∨ N' a = ht_sf (N a) false) ∧ (∀ a ∈ F, ht_in N a k → (∃ zo, ht_rp (N a) = .inr zo) → ht_rl (N a) < b → ht_rf (N' a) = false) ∧ ∀ a, ¬ ht_in N a k → N' a = N a
theorem ht_mkd.rp {N : ht_N} {F : List Nat} {k : ht_K} {b : Nat} {N' : ht_N} (h : ht_mkd N F k b N') (a : Nat) : ht_rp (N' a) = ht_rp (N a) ∧ ht_rk (N' a) = ht_rk (N a) ∧ ht_rl (N' a) = ht_rl (N a) ∧ ht_rh (N' a) = ht_rh (N a) := by
  rcases h.1 a with e | e <;> rw [e] <;> exact ⟨rfl, rfl, rfl, rfl⟩
theorem ht_mkd.le {N : ht_N} {F : List Nat} {k : ht_K} {b b' : Nat} {N' : ht_N} (h : ht_mkd N F k b N') (hb : b' ≤ b) : ht_mkd N F k b' N' := ⟨h.1, fun a ha hi hz hl => h.2.1 a ha hi hz (Nat.lt_of_lt_of_le hl hb), h.2.2⟩
theorem ht_mkd.start {N : ht_N} {F : List Nat} {k : ht_K} {t : Nat} {L : ht_L} (hT : ht_T N F (some t) L) : ht_mkd N F k (ht_rl (N t)) N := ⟨fun _ => Or.inl rfl, fun a ha _ _ hl => absurd hl (Nat.not_lt.mpr (hT.topL ha)), fun _ _ => rfl⟩
theorem ht_mkd.step {N : ht_N} {F : List Nat} {k : ht_K} {top : Option Nat} {L : ht_L} {N' : ht_N} {c : Nat} (hT : ht_T N F top L) (h : ht_mkd N F k (ht_rl (N c)) N') (hc : c ∈ F) (hi : ht_in N c k) {zo : Nat × Nat} (hp : ht_rp (N c) = .inr zo) : ht_mkd N F k (ht_rl (N (ht_ch zo (ht_bit k (ht_rl (N c)))))) (va_up N' c (ht_sf (N' c) false)) := by
  refine ⟨fun a => ?_, fun a ha hia hz hl => ?_, fun a hna => ?_⟩
  · by_cases e : a = c
    · subst e
      rw [va_up_self]
      rcases h.1 a with e | e <;> rw [e]
      · exact Or.inr rfl
      · exact Or.inr rfl
    · rw [va_up_ne _ _ e]
      exact h.1 a
  · by_cases e : a = c
    · subst e
      rw [va_up_self]
      rfl
    · rw [va_up_ne _ _ e]
      rcases Nat.lt_trichotomy (ht_rl (N a)) (ht_rl (N c)) with q | q | q
      · exact h.2.1 a ha hia hz q
      · exact absurd (hT.same ha hc hi hia q) e
      · exact absurd (hT.nojump ha hc hp hi hia q) (Nat.not_le.mpr hl)
  · have e : a ≠ c := fun z => hna (z ▸ hi)
    rw [va_up_ne _ _ e]
    exact h.2.2 a hna
set_option maxHeartbeats 4000000 in
set_option maxRecDepth 100000 in
theorem c_X_stalePath (l : Launch) (g : ht_G) (w : ht_W) {x kA dg op sb la en : Nat} {t : Nat} {cnt ei : Int32} {k : ht_K} {N : ht_N} {A : ht_AA} {F : List Nat} {L : ht_L} (hX : ht_at w x (.inr (0, [.ref kA, .ref dg, .ref op, .ref t, .int cnt, .ref sb, .ref la, .ref en, .int ei]))) (hK : ht_at w kA (ht_al g 4 (ht_kf k))) (hN : ht_Nd g w N A F) (hT : ht_T N F (some t) L) (lim : Nat) (hlim : lim ≤ 256) (li : Int32) (eli : li = nI lim) {qs : ht_K × ht_K} (hqs : qs ∈ L) (hqp : lim ≤ ht_part k qs.1) : Met l y_X_stalePath ws_X_stalePath ({ frames := 1, cells := 0, slots := 0, locals := 30 } : Room) (va_Pc [.ref x, .int li] (ht_WS g w)) (ht_Qq g (fun r u => ∃ (N' : ht_N) (be : Nat), ht_Nd g u N' A F ∧ ht_fr (fun b => b ∈ F) w u ∧ ht_mkd N F k lim N' ∧ ht_slot N F (some t) k lim r be)) 0 0 (ht_A g) := by
  refine Met.ofW (cc := b_X_stalePath) (maxL := 5) (ret := (some (.object "HashTree$Branch"))) (by decide) rfl ?_
  intro p e s m args below meth c s₁ BB hml hv
  obtain ⟨rfl, HW⟩ := hv
  have HW := ht_I.start HW
  have hx := BB.exec
  have hb := BB.bytes
  have hr := BB.returns
  have hts := atoms_spec (ws := ws_X_stalePath) BB.pre
  have htb : ∀ w ∈ bg, w.before _ s = true := fun w h => hts w (List.mem_cons_of_mem _ h)
  have hown : s.vm.findClass R_X = some m.cls := findClass_of_methodNamed BB.named
  have hlocks := BB.notSynchronized
  have hl := lv_entry ([.ref x, .int li]) (n := 5) (Nat.le_of_ble_eq_true rfl)
  rw [lg_entry_eq]
  generalize (lg_sl ([.ref x, .int li]) ++ List.replicate (5 - (lg_sl ([.ref x, .int li])).length) Slot.unset).toArray = ls at hl ⊢
  have hl : lv_has ls 5 [(0, .ref x), (1, .int li)] := hl
  have loop : ∀ (n cu : Nat), cu ∈ F → ht_in N cu qs.1 → 256 ≤ ht_rl (N cu) + n → ∀ (last : Option Nat) (Ni : ht_N) (u : ht_W), ht_Nd g u Ni A F → ht_fr (fun b => b ∈ F) w u → ht_mkd N F k (ht_rl (N cu)) Ni → ((last = none ∧ t = cu) ∨ ∃ c1 zo, last = some c1 ∧ c1 ∈ F ∧ ht_in N c1 k ∧ ht_rl (N c1) < lim ∧ ht_rp (N c1) = .inr zo ∧ ht_ch zo (ht_bit k (ht_rl (N c1))) = cu) → ∀ (H : Heap) (locs : List Loc) (ls : Array Slot), ht_I g s u H locs → lv_has ls 5 [(0, .ref x), (1, .int li), (2, va_rf last), (3, .ref cu)] → W p l e (headSpec ws_X_stalePath ({ frames := 1, cells := 0, slots := 0, locals := 30 } : Room)).room s m ([.ref x, .int li] : List Value).toArray below meth c H locs 0 0 (MQ below (ht_Qq g (fun r u => ∃ (N' : ht_N) (be : Nat), ht_Nd g u N' A F ∧ ht_fr (fun b => b ∈ F) w u ∧ ht_mkd N F k lim N' ∧ ht_slot N F (some t) k lim r be)) ([.ref x, .int li] : List Value).toArray s 0 0 (ht_A g)) (F0 m 7 ls []) := by
    intro n
    induction n with
    | zero =>
      intro cu hc hcq hn last Ni u hNi hfr hmk hlast H locs ls HW hl
      have hX := hfr.at hX (hN.x hX)
      have hK := hfr.at hK (hN.l hK)
      cases hp : ht_rp (N cu) with
      | inl v =>
        have hpi := (hmk.rp cu).1.trans hp
        have hla := hNi.lf hc hpi
        rw [(hmk.rp cu).2.2.1] at hla
        have hlc : lim ≤ ht_rl (N cu) := by rw [(hT.2.2.2.1 cu hc v hp).1]; exact hlim
        refine lv_aload_n hx hb d_X_stalePath_7 rfl (lv_at hl 3 rfl) ?_
        refine va_instNo hx hb hown (htb _ wd_87) HW.2.2.1.2.2.2.2.2.2.2.1 (HW.recv hla (q := (R_L, F_L, 5)) rfl) d_X_stalePath_8 ?_
        refine lv_if_eq (tgt := 59) hx hb d_X_stalePath_11 (by decide) (fun c11 => ?_) (fun c11 => ?_)
        · have hsl : ht_slot N F (some t) k lim last cu := ⟨hc, hlc, hlast.elim (fun q => Or.inl ⟨q.1, by rw [q.2]⟩) Or.inr⟩
          rcases last with _ | pp
          · refine lv_aload_nN hx hb d_X_stalePath_59 rfl (lv_at hl 2 rfl) ?_
            exact ht_qret (r := none) hx hb hr hlocks HW ⟨Ni, cu, hNi, hfr, hmk.le hlc, hsl⟩ d_X_stalePath_60
          · refine lv_aload_n hx hb d_X_stalePath_59 rfl (lv_at hl 2 rfl) ?_
            exact ht_qret (r := some pp) hx hb hr hlocks HW ⟨Ni, cu, hNi, hfr, hmk.le hlc, hsl⟩ d_X_stalePath_60
        · exact absurd rfl c11
      | inr zo =>
        have := (hT.half hc hp false).2.1
        omega
    | succ n ih =>
      intro cu hc hcq hn last Ni u hNi hfr hmk hlast H locs ls HW hl
      have hX := hfr.at hX (hN.x hX)
      have hK := hfr.at hK (hN.l hK)
      cases hp : ht_rp (N cu) with
      | inl v =>
        have hpi := (hmk.rp cu).1.trans hp
        have hla := hNi.lf hc hpi
        rw [(hmk.rp cu).2.2.1] at hla
        have hlc : lim ≤ ht_rl (N cu) := by rw [(hT.2.2.2.1 cu hc v hp).1]; exact hlim
        refine lv_aload_n hx hb d_X_stalePath_7 rfl (lv_at hl 3 rfl) ?_
        refine va_instNo hx hb hown (htb _ wd_87) HW.2.2.1.2.2.2.2.2.2.2.1 (HW.recv hla (q := (R_L, F_L, 5)) rfl) d_X_stalePath_8 ?_
        refine lv_if_eq (tgt := 59) hx hb d_X_stalePath_11 (by decide) (fun c11 => ?_) (fun c11 => ?_)
        · have hsl : ht_slot N F (some t) k lim last cu := ⟨hc, hlc, hlast.elim (fun q => Or.inl ⟨q.1, by rw [q.2]⟩) Or.inr⟩
          rcases last with _ | pp
          · refine lv_aload_nN hx hb d_X_stalePath_59 rfl (lv_at hl 2 rfl) ?_
            exact ht_qret (r := none) hx hb hr hlocks HW ⟨Ni, cu, hNi, hfr, hmk.le hlc, hsl⟩ d_X_stalePath_60
          · refine lv_aload_n hx hb d_X_stalePath_59 rfl (lv_at hl 2 rfl) ?_
            exact ht_qret (r := some pp) hx hb hr hlocks HW ⟨Ni, cu, hNi, hfr, hmk.le hlc, hsl⟩ d_X_stalePath_60
        · exact absurd rfl c11
      | inr zo =>
        have hpi := (hmk.rp cu).1.trans hp
        have hla := hNi.br hc hpi
        rw [(hmk.rp cu).2.2.1] at hla
        have hz := hT.half hc hp (ht_bit k (ht_rl (N cu)))
        refine lv_aload_n hx hb d_X_stalePath_7 rfl (lv_at hl 3 rfl) ?_
        refine va_instS hx hb hown (htb _ wd_87) (HW.2.1.1 3 _ rfl).2 (HW.recv hla (q := (R_B, F_B, 6)) rfl) d_X_stalePath_8 ?_
        refine lv_if_eq (tgt := 59) hx hb d_X_stalePath_11 (by decide) (fun c11 => ?_) (fun c11 => ?_)
        · exact absurd c11 (by decide)
        · refine lv_aload_n hx hb d_X_stalePath_14 rfl (lv_at hl 3 rfl) ?_
          refine va_castS hx hb hown (htb _ wd_87) (HW.2.1.1 3 _ rfl).2 (HW.recv hla (q := (R_B, F_B, 6)) rfl) d_X_stalePath_15 ?_
          refine lv_astore (lv' := [(4, .ref cu), (0, .ref x), (1, .int li), (2, va_rf last), (3, .ref cu)]) hx hb d_X_stalePath_18 hl (by decide) rfl (fun ls hl => ?_)
          refine lv_aload hx hb d_X_stalePath_20 (lv_at hl 0 rfl) ?_
          refine ht_get (C := R_B) (T := F_B) (N := 6) (v := .int (nI (ht_rl (N cu)))) hx hb htb i_B hown HW hla rfl 1 (by decide) (htb _ wd_133) (fun x h9 => u_same (htb _ wd_134) x h9) rfl d_X_stalePath_22 ?_
          refine lv_iload_n hx hb d_X_stalePath_25 rfl (lv_at hl 2 rfl) ?_
          refine lv_icmp_ge (tgt := 59) hx hb d_X_stalePath_26 (by decide) (fun c26 => ?_) (fun c26 => ?_)
          · have hlc : lim ≤ ht_rl (N cu) := by
              rw [eli] at c26
              exact (nI_leI (by omega) (by have := hT.lv hc; omega)).mp c26
            have hsl : ht_slot N F (some t) k lim last cu := ⟨hc, hlc, hlast.elim (fun q => Or.inl ⟨q.1, by rw [q.2]⟩) Or.inr⟩
            rcases last with _ | pp
            · refine lv_aload_nN hx hb d_X_stalePath_59 rfl (lv_at hl 3 rfl) ?_
              exact ht_qret (r := none) hx hb hr hlocks HW ⟨Ni, cu, hNi, hfr, hmk.le hlc, hsl⟩ d_X_stalePath_60
            · refine lv_aload_n hx hb d_X_stalePath_59 rfl (lv_at hl 3 rfl) ?_
              exact ht_qret (r := some pp) hx hb hr hlocks HW ⟨Ni, cu, hNi, hfr, hmk.le hlc, hsl⟩ d_X_stalePath_60
          · have hlc : ht_rl (N cu) < lim := Nat.not_le.mp (fun q9 => c26 (by rw [eli]; exact nI_le q9 (by have := hT.lv hc; omega)))
            have hik : ht_in N cu k := hT.up hc hcq (ht_ag_symm (ht_ag_le (ht_part_ag k qs.1) (by omega)))
            refine lv_aload hx hb d_X_stalePath_29 (lv_at hl 0 rfl) ?_
            refine lv_iconst (v := 0) hx hb d_X_stalePath_31 (by decide) ?_
            refine ht_put (C := R_B) (T := F_B) (N := 6) (v := .int 0) (ty := .boolean) hx hb htb i_B t_B t_B_ok n_B hown HW hla rfl 3 (by decide) (htb _ wd_143) (fun x h9 => u_same (htb _ wd_144) x h9) rfl (by decide +kernel) rfl rfl (Nat.le_of_ble_eq_true rfl) d_X_stalePath_32 (fun H locs HW => ?_)
            have n_x_cu : x ≠ cu := (ht_ne hX hla (fun z => by cases z))
            have n_kA_cu : kA ≠ cu := (ht_ne hK hla (fun z => by cases z))
            obtain ⟨u1, hu1⟩ : ∃ zW : ht_W, zW = ht_up u cu (.inr (3, [.ref (A cu).1, .int (nI (ht_rl (N cu))), .ref (A cu).2.1, .int 0, .ref zo.1, .ref zo.2]) : va_E) := ⟨_, rfl⟩
            have HW : ht_I g s u1 H locs := by rw [hu1]; exact HW
            have hX : ht_at u1 x (.inr (0, [.ref kA, .ref dg, .ref op, .ref t, .int cnt, .ref sb, .ref la, .ref en, .int ei]) : va_E) := by rw [hu1]; exact ht_at_ne hX n_x_cu
            have hK : ht_at u1 kA (ht_al g 4 (ht_kf k)) := by rw [hu1]; exact ht_at_ne hK n_kA_cu
            have hla : ht_at u1 cu (.inr (3, [.ref (A cu).1, .int (nI (ht_rl (N cu))), .ref (A cu).2.1, .int 0, .ref zo.1, .ref zo.2]) : va_E) := by rw [hu1]; exact ht_at_self hla
            refine lv_aload hx hb d_X_stalePath_35 (lv_at hl 0 rfl) ?_
            refine lv_astore_n (lv' := [(2, .ref cu), (4, .ref cu), (0, .ref x), (1, .int li), (3, .ref cu)]) hx hb d_X_stalePath_37 rfl hl (by decide) rfl (fun ls hl => ?_)
            refine lv_aload hx hb d_X_stalePath_38 (lv_at hl 1 rfl) ?_
            refine lv_aload_n hx hb d_X_stalePath_40 rfl (lv_at hl 2 rfl) ?_
            refine ht_get (C := R_X) (T := F_X) (N := 9) (v := .ref kA) hx hb htb i_X hown HW hX rfl 0 (by decide) (htb _ wd_40) (fun _ h9 => h9) rfl d_X_stalePath_41 ?_
            refine lv_aload hx hb d_X_stalePath_44 (lv_at hl 1 rfl) ?_
            refine ht_get (C := R_B) (T := F_B) (N := 6) (v := .int (nI (ht_rl (N cu)))) hx hb htb i_B hown HW hla rfl 1 (by decide) (htb _ wd_133) (fun x h9 => u_same (htb _ wd_134) x h9) rfl d_X_stalePath_46 ?_
            refine ht_ci HW (va_runS (own := R_X) (As := [.ref kA, .int (nI (ht_rl (N cu)))]) (rest := [.ref cu]) ⟨hx, hb, hml, hown, htb⟩ (c_X_isOne l g u1 hK (ht_rl (N cu)) hz.2.1 _ rfl) (va_cwS 2 htb (ht_gs wd_88 wd_89 wd_1 g_X_isOne) rfl rfl rfl (by decide +kernel) ⟨Nat.le_of_ble_eq_true rfl, Nat.le_of_ble_eq_true rfl⟩) (HW.preS _) rfl rfl hl.1 rfl (lv_room (Nat.le_of_ble_eq_true rfl)) d_X_stalePath_49 ⟨Nat.le_of_ble_eq_true rfl, Nat.le_of_ble_eq_true rfl⟩) (fun q3 u2 H locs pu2 HW => ?_)
            obtain ⟨eq3, eu2⟩ := pu2
            subst eu2
            rw [eq3]
            refine ht_cq HW (va_runV (own := R_X) (C := R_B) (As := [.int (ht_b1 (ht_bit k (ht_rl (N cu))))]) (rest := []) ⟨hx, hb, hml, hown, htb⟩ (c_B_half l g u1 hla (ht_bit k (ht_rl (N cu)))) (cwV 1 htb (ht_gv wd_91 wd_92 wd_93 wd_8 g_B_half) rfl rfl rfl (by decide +kernel) ⟨Nat.le_of_ble_eq_true rfl, Nat.le_of_ble_eq_true rfl⟩) (HW.preV hla rfl _) rfl rfl hl.1 rfl (lv_room (Nat.le_of_ble_eq_true rfl)) d_X_stalePath_52 ⟨Nat.le_of_ble_eq_true rfl, Nat.le_of_ble_eq_true rfl⟩) (fun q5 u4 H locs ph HW => ?_)
            obtain ⟨eh, eww⟩ := ph
            subst eww
            subst eh
            refine W.eq (g2 := F0 m 55 ls [.ref (ht_ch zo (ht_bit k (ht_rl (N cu))))]) rfl ?_
            refine lv_astore_n (lv' := [(3, .ref (ht_ch zo (ht_bit k (ht_rl (N cu))))), (2, .ref cu), (4, .ref cu), (0, .ref x), (1, .int li)]) hx hb d_X_stalePath_55 rfl hl (by decide) rfl (fun ls hl => ?_)
            refine lv_goto (tgt := 7) hx hb d_X_stalePath_56 (by decide) ?_
            have hz := hT.half hc hp (ht_bit k (ht_rl (N cu)))
            refine ih _ hz.1 (((hz.2.2.2 qs hqs).mp ⟨hcq, (ht_part_ag k qs.1 _ (by omega)).symm⟩)) (by have := hz.2.2.1; omega) (some cu) (va_up Ni cu (ht_sf (Ni cu) false)) u1 ?_ (hfr.trans (by rw [hu1]; exact ht_fr.up hc)) (hmk.step hT hc hik hp) (Or.inr ⟨cu, zo, rfl, hc, hik, hlc, hp, rfl⟩) _ _ _ HW (lv_sub hl [3, 4, 1, 0] rfl)
            have h9 := hNi.sf hc false
            rw [ht_nc_b (show ht_rp (ht_sf (Ni cu) false) = .inr zo from hpi)] at h9
            rw [hu1]
            have e9 : ht_rl (ht_sf (Ni cu) false) = ht_rl (N cu) := (hmk.rp cu).2.2.1
            rw [e9] at h9
            exact h9
  refine lv_null hx hb d_X_stalePath_0 ?_
  refine lv_astore_nN (lv' := [(2, .null), (0, .ref x), (1, .int li)]) hx hb d_X_stalePath_1 rfl hl (by decide) rfl (fun ls hl => ?_)
  refine lv_aload_n hx hb d_X_stalePath_2 rfl (lv_at hl 1 rfl) ?_
  refine ht_get (C := R_X) (T := F_X) (N := 9) (v := .ref t) hx hb htb i_X hown HW hX rfl 3 (by decide) (htb _ wd_43) (fun _ h9 => h9) rfl d_X_stalePath_3 ?_
  refine lv_astore_n (lv' := [(3, .ref t), (2, .null), (0, .ref x), (1, .int li)]) hx hb d_X_stalePath_6 rfl hl (by decide) rfl (fun ls hl => ?_)
  exact loop 256 t (hT.2.2.1.1 t rfl).1 ((hT.2.2.1.1 t rfl).2 qs hqs) (by omega) none N w hN ht_fr.rf (ht_mkd.start hT) (Or.inl ⟨rfl, rfl⟩) _ _ _ HW (lv_sub hl [2, 3, 1, 0] rfl)
end
section
theorem ht_Nd.fr {g : ht_G} {w u : ht_W} {N : ht_N} {A : ht_AA} {F : List Nat} {S : Nat → Prop} (h : ht_Nd g w N A F) (hf : ht_fr S w u) (h1 : ∀ a ∈ F, ¬ S a) (h2 : ∀ b n f, ht_at w b (ht_al g n f) → S b → False) : ht_Nd g u N A F := by
  intro a ha
  obtain ⟨q1, q2, q3, q4⟩ := h a ha
  exact ⟨hf.at q1 (h1 a ha), hf.at q2 (h2 _ _ _ q2), hf.at q3 (h2 _ _ _ q3), fun v hv => hf.at (q4 v hv) (h2 _ _ _ (q4 v hv))⟩
theorem ht_ne_lo {ci n : Nat} {fs : List Value} {g : ht_G} {f : Nat → Int64} {w : ht_W} {a b : Nat} (h : ht_at w b (ht_al g n f)) (h' : ht_at w a (.inr (ci, fs))) : b ≠ a := ht_ne h h' ht_ne_ol
/-- an object that is no node changes -/
theorem ht_Nd.upo {g : ht_G} {w : ht_W} {N : ht_N} {A : ht_AA} {F : List Nat} (h : ht_Nd g w N A F) {b ci : Nat} {fs : List Value} {e : va_E} (hb : ht_at w b (.inr (ci, fs))) (hF : b ∉ F) : ht_Nd g (ht_up w b e) N A F :=
  h.fr (S := fun z => z = b) (ht_fr.up rfl) (fun a ha z => hF (by rw [← z]; exact ha)) (fun b' n f h' z => ht_ne_lo h' hb z)
theorem ht_Nd.nw {g : ht_G} {w : ht_W} {N : ht_N} {A : ht_AA} {F : List Nat} (h : ht_Nd g w N A F) {b : Nat} {e : va_E} (hb : b ∉ w.1) : ht_Nd g (ht_nw w b e) N A F :=
  h.fr (S := fun _ => False) (ht_fr.nw hb) (fun _ _ z => z) (fun _ _ _ _ z => z)
/-- a branch gets another half -/
theorem ht_Nd.sp {g : ht_G} {w : ht_W} {N : ht_N} {A : ht_AA} {F : List Nat} (h : ht_Nd g w N A F) {cu : Nat} (hc : cu ∈ F) {zo zo' : Nat × Nat} (hp : ht_rp (N cu) = .inr zo) : ht_Nd g (ht_up w cu (.inr (3, [.ref (A cu).1, .int (nI (ht_rl (N cu))), .ref (A cu).2.1, .int (ht_b1 (ht_rf (N cu))), .ref zo'.1, .ref zo'.2]))) (va_up N cu (ht_spy (N cu) (.inr zo'))) A F := by
  intro a ha
  obtain ⟨h1, h2, h3, h4⟩ := h a ha
  have n1 : (A a).1 ≠ cu := fun z => h.l h2 (by rw [z]; exact hc)
  have n2 : (A a).2.1 ≠ cu := fun z => h.l h3 (by rw [z]; exact hc)
  by_cases e : a = cu
  · subst e
    rw [va_up_self]
    refine ⟨ht_at_self h1, ht_at_ne h2 n1, ht_at_ne h3 n2, fun v hv => ?_⟩
    cases hv
  · rw [va_up_ne _ _ e]
    exact ⟨ht_at_ne h1 e, ht_at_ne h2 n1, ht_at_ne h3 n2, fun v hv => ht_at_ne (h4 v hv) (fun z => h.l (h4 v hv) (by rw [z]; exact hc))⟩
set_option maxHeartbeats 4000000 in
set_option maxRecDepth 100000 in
theorem c_X_hang_N (l : Launch) (g : ht_G) (w : ht_W) {x kA dg op sb la en : Nat} {top : Option Nat} {cnt ei : Int32} (hX : ht_at w x (.inr (0, [.ref kA, .ref dg, .ref op, va_rf top, .int cnt, .ref sb, .ref la, .ref en, .int ei]))) (nd : Nat) : Met l y_X_hang ws_X_hang ({ frames := 1, cells := 0, slots := 0, locals := 30 } : Room) (va_Pc [.ref x, .null, .ref nd] (ht_WS g w)) (ht_Qv g (fun u => u = ht_up w x (.inr (0, [.ref kA, .ref dg, .ref op, .ref nd, .int cnt, .ref sb, .ref la, .ref en, .int ei])))) 0 0 (ht_A g) := by
  refine Met.ofW (cc := b_X_hang) (maxL := 3) (ret := none) (by decide) rfl ?_
  intro p e s m args below meth c s₁ BB hml hv
  obtain ⟨rfl, HW⟩ := hv
  have HW := ht_I.start HW
  have hx := BB.exec
  have hb := BB.bytes
  have hr := BB.returns
  have hts := atoms_spec (ws := ws_X_hang) BB.pre
  have htb : ∀ w ∈ bg, w.before _ s = true := fun w h => hts w (List.mem_cons_of_mem _ h)
  have hown : s.vm.findClass R_X = some m.cls := findClass_of_methodNamed BB.named
  have hlocks := BB.notSynchronized
  have hl := lv_entry ([.ref x, .null, .ref nd]) (n := 3) (Nat.le_of_ble_eq_true rfl)
  rw [lg_entry_eq]
  generalize (lg_sl ([.ref x, .null, .ref nd]) ++ List.replicate (3 - (lg_sl ([.ref x, .null, .ref nd])).length) Slot.unset).toArray = ls at hl ⊢
  have hl : lv_has ls 3 [(0, .ref x), (1, .null), (2, .ref nd)] := hl
  refine lv_aload_nN hx hb d_X_hang_0 rfl (lv_at hl 1 rfl) ?_
  refine lv_ifnonnullN hx hb d_X_hang_1 ?_
  refine lv_aload_n hx hb d_X_hang_4 rfl (lv_at hl 0 rfl) ?_
  refine lv_aload_n hx hb d_X_hang_5 rfl (lv_at hl 2 rfl) ?_
  refine ht_put (C := R_X) (T := F_X) (N := 9) (v := .ref nd) (ty := .object "HashTree$Node") hx hb htb i_X t_X t_X_ok n_X hown HW hX rfl 3 (by decide) (htb _ wd_43) (fun _ h9 => h9) rfl (by decide +kernel) rfl rfl (Nat.le_of_ble_eq_true rfl) d_X_hang_6 (fun H locs HW => ?_)
  obtain ⟨u1, hu1⟩ : ∃ zW : ht_W, zW = ht_up w x (.inr (0, [.ref kA, .ref dg, .ref op, .ref nd, .int cnt, .ref sb, .ref la, .ref en, .int ei]) : va_E) := ⟨_, rfl⟩
  have HW : ht_I g s u1 H locs := by rw [hu1]; exact HW
  have hX : ht_at u1 x (.inr (0, [.ref kA, .ref dg, .ref op, .ref nd, .int cnt, .ref sb, .ref la, .ref en, .int ei]) : va_E) := by rw [hu1]; exact ht_at_self hX
  refine lv_goto (tgt := 28) hx hb d_X_hang_9 (by decide) ?_
  exact ht_vret hx hb hr hlocks HW hu1 d_X_hang_28
set_option maxHeartbeats 4000000 in
set_option maxRecDepth 100000 in
theorem c_X_hang_S (l : Launch) (g : ht_G) (w : ht_W) {x kA dg op sb la en : Nat} {top : Option Nat} {cnt ei : Int32} (hX : ht_at w x (.inr (0, [.ref kA, .ref dg, .ref op, va_rf top, .int cnt, .ref sb, .ref la, .ref en, .int ei]))) {k : ht_K} (hK : ht_at w kA (ht_al g 4 (ht_kf k))) {b ka ha z o d : Nat} {fr : Int32} (hd : d < 256) (hB : ht_at w b (.inr (3, [.ref ka, .int (nI d), .ref ha, .int fr, .ref z, .ref o]))) (nd : Nat) : Met l y_X_hang ws_X_hang ({ frames := 1, cells := 0, slots := 0, locals := 30 } : Room) (va_Pc [.ref x, .ref b, .ref nd] (ht_WS g w)) (ht_Qv g (fun u => u = ht_up w b (.inr (3, [.ref ka, .int (nI d), .ref ha, .int fr, .ref (ht_zo (z, o) (ht_bit k d) nd).1, .ref (ht_zo (z, o) (ht_bit k d) nd).2])))) 0 0 (ht_A g) := by
  refine Met.ofW (cc := b_X_hang) (maxL := 3) (ret := none) (by decide) rfl ?_
  intro p e s m args below meth c s₁ BB hml hv
  obtain ⟨rfl, HW⟩ := hv
  have HW := ht_I.start HW
  have hx := BB.exec
  have hb := BB.bytes
  have hr := BB.returns
  have hts := atoms_spec (ws := ws_X_hang) BB.pre
  have htb : ∀ w ∈ bg, w.before _ s = true := fun w h => hts w (List.mem_cons_of_mem _ h)
  have hown : s.vm.findClass R_X = some m.cls := findClass_of_methodNamed BB.named
  have hlocks := BB.notSynchronized
  have hl := lv_entry ([.ref x, .ref b, .ref nd]) (n := 3) (Nat.le_of_ble_eq_true rfl)
  rw [lg_entry_eq]
  generalize (lg_sl ([.ref x, .ref b, .ref nd]) ++ List.replicate (3 - (lg_sl ([.ref x, .ref b, .ref nd])).length) Slot.unset).toArray = ls at hl ⊢
  have hl : lv_has ls 3 [(0, .ref x), (1, .ref b), (2, .ref nd)] := hl
  refine lv_aload_n hx hb d_X_hang_0 rfl (lv_at hl 1 rfl) ?_
  refine lv_ifnonnull (tgt := 12) hx hb d_X_hang_1 (by decide) ?_
  refine lv_aload_n hx hb d_X_hang_12 rfl (lv_at hl 1 rfl) ?_
  refine lv_aload_n hx hb d_X_hang_13 rfl (lv_at hl 0 rfl) ?_
  refine ht_get (C := R_X) (T := F_X) (N := 9) (v := .ref kA) hx hb htb i_X hown HW hX rfl 0 (by decide) (htb _ wd_40) (fun _ h9 => h9) rfl d_X_hang_14 ?_
  refine lv_aload_n hx hb d_X_hang_17 rfl (lv_at hl 1 rfl) ?_
  refine ht_get (C := R_B) (T := F_B) (N := 6) (v := .int (nI d)) hx hb htb i_B hown HW hB rfl 1 (by decide) (htb _ wd_133) (fun x h9 => u_same (htb _ wd_134) x h9) rfl d_X_hang_18 ?_
  refine ht_ci HW (va_runS (own := R_X) (As := [.ref kA, .int (nI d)]) (rest := [.ref b]) ⟨hx, hb, hml, hown, htb⟩ (c_X_isOne l g w hK d hd _ rfl) (va_cwS 2 htb (ht_gs wd_88 wd_89 wd_1 g_X_isOne) rfl rfl rfl (by decide +kernel) ⟨Nat.le_of_ble_eq_true rfl, Nat.le_of_ble_eq_true rfl⟩) (HW.preS _) rfl rfl hl.1 rfl (lv_room (Nat.le_of_ble_eq_true rfl)) d_X_hang_21 ⟨Nat.le_of_ble_eq_true rfl, Nat.le_of_ble_eq_true rfl⟩) (fun q2 u1 H locs pu1 HW => ?_)
  obtain ⟨eq2, eu1⟩ := pu1
  subst eu1
  rw [eq2]
  refine lv_aload_n hx hb d_X_hang_24 rfl (lv_at hl 2 rfl) ?_
  refine ht_cv HW (va_runV (own := R_X) (C := R_B) (As := [.int (ht_b1 (ht_bit k d)), .ref nd]) (rest := []) ⟨hx, hb, hml, hown, htb⟩ (c_B_putHalf l g w hB (ht_bit k d) nd) (cwV 2 htb (ht_gv wd_182 wd_183 wd_184 wd_8 g_B_putHalf) rfl rfl rfl (by decide +kernel) ⟨Nat.le_of_ble_eq_true rfl, Nat.le_of_ble_eq_true rfl⟩) (HW.preV hB rfl _) rfl rfl hl.1 rfl (lv_room (Nat.le_of_ble_eq_true rfl)) d_X_hang_25 ⟨Nat.le_of_ble_eq_true rfl, Nat.le_of_ble_eq_true rfl⟩) (fun u3 H locs pp HW => ?_)
  exact ht_vret hx hb hr hlocks HW pp d_X_hang_28
end
section
/-! The pure side of an insertion. -/
theorem ht_T.ltp {N : ht_N} {F : List Nat} {top : Option Nat} {l : ht_L} (h : ht_T N F top l) {k : ht_K} {p : Nat} (hp : p < 256) (hmax : ∀ q ∈ l, ht_part k q.1 ≤ p) {a : Nat} (ha : a ∈ F) (hi : ht_in N a k) : ht_rl (N a) < p := by
  obtain ⟨q, hq, i1⟩ := h.2.2.2.2.2.2.2 a ha
  have g := h.two ha hi i1
  have h1 := (ht_ag_part (h.lv ha)).mp g
  have h2 := hmax q hq
  rcases Nat.lt_or_ge (ht_rl (N a)) p with z | z
  · exact z
  · exfalso
    have e : ht_rl (N a) = p := by omega
    cases hpx : ht_rp (N a) with
    | inl x => have := (h.2.2.2.1 a ha x hpx).1; omega
    | inr zo =>
      obtain ⟨qb, mb, ib, bb, -⟩ := h.side ha hpx (ht_bit k p)
      rw [e] at bb
      have g2 := h.two ha hi ib
      rw [e] at g2
      have := (ht_ag_part (by omega)).mp (ht_ag_s g2 bb.symm)
      have := hmax qb mb
      omega
theorem ht_ins_pure {dg : Int32 → ht_K → ht_K → ht_K} {N N1 N3 : ht_N} {F : List Nat} {top : Option Nat} {l : ht_L} {k v : ht_K} {p : Nat} {ab : Option Nat} {be m B : Nat} (h : ht_T N F top l) (hf : ht_FH dg N F top l) (hs : ht_slot N F top k p ab be) (hmk : ht_mkd N F k p N1) (hp : p < 256) (hmax : ∀ q ∈ l, ht_part k q.1 ≤ p) {qs : ht_K × ht_K} (hqs : qs ∈ l) (hqp : ht_part k qs.1 = p)
    (hm : m ∉ F) (hB : B ∉ F) (hmB : m ≠ B) (h3 : ∀ a ∈ F, ht_rk (N3 a) = ht_rk (N a) ∧ ht_rl (N3 a) = ht_rl (N a) ∧ ht_rh (N3 a) = ht_rh (N a) ∧ ht_rf (N3 a) = (if a = be then false else ht_rf (N1 a))) (h3n : ∀ a ∈ F, ab ≠ some a → ht_rp (N3 a) = ht_rp (N a)) (h3a : ∀ a zo, ab = some a → ht_rp (N a) = .inr zo → ht_rp (N3 a) = .inr (ht_zo zo (ht_bit k (ht_rl (N a))) B)) :
    ht_T (va_up (va_up N3 m (k, 256, ht_kz, false, .inl v)) B (k, p, ht_kz, false, .inr (ht_zo (be, be) (ht_bit k p) m))) (m :: B :: F) (if ab = none then some B else top) ((k, v) :: l) ∧
    ht_FH dg (va_up (va_up N3 m (k, 256, ht_kz, false, .inl v)) B (k, p, ht_kz, false, .inr (ht_zo (be, be) (ht_bit k p) m))) (m :: B :: F) (if ab = none then some B else top) ((k, v) :: l) := by
  generalize hN' : va_up (va_up N3 m (k, 256, ht_kz, false, .inl v)) B (k, p, ht_kz, false, .inr (ht_zo (be, be) (ht_bit k p) m)) = N'
  have eF : ∀ a ∈ F, N' a = N3 a := by
    intro a ha
    rw [← hN', va_up_ne _ _ (fun z : a = B => hB (by rw [← z]; exact ha)), va_up_ne _ _ (fun z : a = m => hm (by rw [← z]; exact ha))]
  have eM : N' m = (k, 256, ht_kz, false, .inl v) := by
    rw [← hN', va_up_ne _ _ hmB, va_up_self]
  have eB : N' B = (k, p, ht_kz, false, .inr (ht_zo (be, be) (ht_bit k p) m)) := by
    rw [← hN', va_up_self]
  have hkl : ∀ a ∈ F, ht_rk (N' a) = ht_rk (N a) ∧ ht_rl (N' a) = ht_rl (N a) := fun a ha => by rw [eF a ha]; exact ⟨(h3 a ha).1, (h3 a ha).2.1⟩
  have hpn : ∀ a ∈ F, ab ≠ some a → ht_rp (N' a) = ht_rp (N a) := fun a ha hn => by rw [eF a ha]; exact h3n a ha hn
  have hpa : ∀ a zo, ab = some a → ht_rp (N a) = .inr zo → ht_rp (N' a) = .inr (ht_zo zo (ht_bit k (ht_rl (N a))) B) := by
    intro a zo he hz
    have ha : a ∈ F := by
      obtain ⟨-, -, ⟨q, -⟩ | ⟨c, zc, q, hc, -⟩⟩ := hs
      · rw [he] at q; cases q
      · rw [he] at q; cases q; exact hc
    rw [eF a ha]
    exact h3a a zo he hz
  have hT' := h.insert (N' := N') (v := v) hs hp hmax hqs hqp hm hB hmB hkl hpn hpa (by rw [eM]; exact ⟨rfl, rfl, rfl⟩) (by rw [eB]; exact ⟨rfl, rfl, rfl⟩)
  refine ⟨hT', ?_⟩
  refine ht_FH.insert h hf hs hT' hB hkl hpn hpa (by rw [eM]; exact ⟨rfl, rfl⟩) (by rw [eB]; exact ⟨rfl, rfl⟩) (fun a ha hr => ?_) (fun a ha hr hn hne => ?_)
  · rw [eF a ha] at hr ⊢
    obtain ⟨x1, x2, x3, x4⟩ := h3 a ha
    rw [x4] at hr
    by_cases e : a = be
    · rw [if_pos e] at hr; cases hr
    · rw [if_neg e] at hr
      have hN1 : N1 a = N a := by
        rcases hmk.1 a with q | q
        · exact q
        · rw [q] at hr; cases hr
      refine ⟨by rw [← hN1]; exact hr, x3, fun hi => ?_, e⟩
      have hlt := h.ltp hp hmax ha hi
      cases hpx : ht_rp (N a) with
      | inl y => have := (h.2.2.2.1 a ha y hpx).1; omega
      | inr zo =>
        have := hmk.2.1 a ha hi ⟨zo, hpx⟩ hlt
        rw [this] at hr; cases hr
  · rw [eF a ha, (h3 a ha).2.2.2, if_neg hne, hmk.2.2 a hn]
    exact hr
theorem ht_kf_z : ht_kf ht_kz = fun _ => 0 := by
  funext j
  unfold ht_kf ht_kz
  split
  · rfl
  · split
    · rfl
    · split <;> rfl
theorem ht_one_T {dg : Int32 → ht_K → ht_K → ht_K} {N : ht_N} {k v : ht_K} {m : Nat} (hm : N m = (k, 256, ht_kz, false, .inl v)) : ht_T N [m] (some m) [(k, v)] ∧ ht_FH dg N [m] (some m) [(k, v)] := by
  have hin : ∀ q ∈ [(k, v)], ht_in N m q.1 := by
    intro q hq
    rw [List.mem_singleton.mp hq]
    unfold ht_in
    rw [hm]
    show 256 ≤ ht_part k k
    rw [ht_part_eq.mpr rfl]
    exact Nat.le_refl _
  have h0 : ht_T0 N [m] (some m) [(k, v)] := ⟨fun t h => by cases h; exact ⟨List.mem_cons_self, hin⟩, fun h => by cases h⟩
  have h1 : ht_T1 N [m] [(k, v)] := fun a ha x hx => by
    rw [List.mem_singleton.mp ha] at hx ⊢
    rw [hm] at hx ⊢
    cases hx
    exact ⟨rfl, List.mem_cons_self⟩
  have h2 : ht_T2 N [m] [(k, v)] := fun q hq => by
    rw [List.mem_singleton.mp hq]
    exact ⟨m, List.mem_cons_self, by rw [hm]; exact ⟨rfl, rfl⟩⟩
  have h3 : ht_T3 N [m] [(k, v)] := fun a ha zo hz => by
    rw [List.mem_singleton.mp ha, hm] at hz
    cases hz
  have h4 : ht_T4 N [m] := fun a ha b hb _ _ => by rw [List.mem_singleton.mp ha, List.mem_singleton.mp hb]
  have h5 : ht_T5 N [m] [(k, v)] := fun a ha => by
    rw [List.mem_singleton.mp ha]
    exact ⟨(k, v), List.mem_cons_self, hin _ List.mem_cons_self⟩
  refine ⟨⟨List.nodup_cons.mpr ⟨List.not_mem_nil, List.nodup_nil⟩, List.nodup_cons.mpr ⟨List.not_mem_nil, List.nodup_nil⟩, h0, h1, h2, h3, h4, h5⟩, fun t ht hr => ?_, fun a ha zo hz => ?_⟩
  · cases ht
    rw [hm] at hr; cases hr
  · rw [List.mem_singleton.mp ha, hm] at hz
    cases hz
end
section
theorem ht_Nd_ext {g : ht_G} {u : ht_W} {N : ht_N} {A : ht_AA} {F : List Nat} {m B km hm vm qh p : Nat} {k v : ht_K} {zo : Nat × Nat} (h : ht_Nd g u N A F) (hmF : m ∉ F) (hBF : B ∉ F) (hmB : m ≠ B) (hM : ht_at u m (.inr (2, [.ref km, .int 256, .ref hm, .int 0, .ref vm]))) (hkm : ht_at u km (ht_al g 4 (ht_kf k))) (hhm : ht_at u hm (ht_al g 4 (fun _ => 0))) (hvm : ht_at u vm (ht_al g 4 (ht_kf v))) (hB : ht_at u B (.inr (3, [.ref km, .int (nI p), .ref qh, .int 0, .ref zo.1, .ref zo.2]))) (hqh : ht_at u qh (ht_al g 4 (fun _ => 0))) :
    ht_Nd g u (va_up (va_up N m (k, 256, ht_kz, false, .inl v)) B (k, p, ht_kz, false, .inr zo)) (va_up (va_up A m (km, hm, vm)) B (km, qh, 0)) (m :: B :: F) := by
  intro a ha
  rcases List.mem_cons.mp ha with e | e
  · subst e
    rw [va_up_ne _ _ hmB, va_up_ne _ _ hmB, va_up_self, va_up_self]
    exact ⟨hM, hkm, by show ht_at u hm (ht_al g 4 (ht_kf ht_kz)); rw [ht_kf_z]; exact hhm, fun v' hv' => by cases hv'; exact hvm⟩
  · rcases List.mem_cons.mp e with e | e
    · subst e
      rw [va_up_self, va_up_self]
      exact ⟨hB, hkm, by show ht_at u qh (ht_al g 4 (ht_kf ht_kz)); rw [ht_kf_z]; exact hqh, fun v' hv' => by cases hv'⟩
    · have n1 : a ≠ B := fun z => hBF (by rw [← z]; exact e)
      have n2 : a ≠ m := fun z => hmF (by rw [← z]; exact e)
      rw [va_up_ne _ _ n1, va_up_ne _ _ n2, va_up_ne _ _ n1, va_up_ne _ _ n2]
      exact h a e
def ht_InsP (dg : Int32 → ht_K → ht_K → ht_K) (g : ht_G) (w u : ht_W) (x kA dgr op sb la en : Nat) (cnt ei : Int32) (k v : ht_K) (m km hm vm : Nat) (N : ht_N) (A : ht_AA) (F : List Nat) (L : ht_L) : Prop := ∃ (N' : ht_N) (A' : ht_AA) (F' : List Nat) (top' : Option Nat), ht_at u x (.inr (0, [.ref kA, .ref dgr, .ref op, va_rf top', .int cnt, .ref sb, .ref la, .ref en, .int ei])) ∧ ht_Nd g u N' A' F' ∧ ht_T N' F' top' ((k, v) :: L) ∧ ht_FH dg N' F' top' ((k, v) :: L) ∧ ht_fr (fun b => b ∈ F ∨ b = x) w u ∧ ((F' = [m] ∧ A' = va_up A m (km, hm, vm) ∧ F = []) ∨ ∃ B qh, F' = m :: B :: F ∧ A' = va_up (va_up A m (km, hm, vm)) B (km, qh, 0) ∧ B ∉ w.1 ∧ qh ∉ w.1 ∧ B ≠ qh ∧ ∃ zo, ht_rp (N' B) = .inr zo) ∧ ∀ a ∈ F, ∀ v', ht_rp (N' a) = .inl v' → ht_rp (N a) = .inl v'
set_option maxHeartbeats 4000000 in
set_option maxRecDepth 100000 in
theorem c_X_insert (l : Launch) (g : ht_G) (w : ht_W) {x kA dg op sb la en : Nat} {top : Option Nat} {cnt ei : Int32} {k : ht_K} {N : ht_N} {A : ht_AA} {F : List Nat} {L : ht_L} (hX : ht_at w x (.inr (0, [.ref kA, .ref dg, .ref op, va_rf top, .int cnt, .ref sb, .ref la, .ref en, .int ei]))) (hK : ht_at w kA (ht_al g 4 (ht_kf k))) (hN : ht_Nd g w N A F) (hT : ht_T N F top L) {dgf : Int32 → ht_K → ht_K → ht_K} (hFH : ht_FH dgf N F top L) {mf km hm vm : Nat} {v : ht_K} (hM : ht_at w mf (.inr (2, [.ref km, .int 256, .ref hm, .int 0, .ref vm]))) (hkm : ht_at w km (ht_al g 4 (ht_kf k))) (hhm : ht_at w hm (ht_al g 4 (fun _ => 0))) (hvm : ht_at w vm (ht_al g 4 (ht_kf v))) (hmF : mf ∉ F) (hnk : ∀ q ∈ L, q.1 ≠ k) : Met l y_X_insert ws_X_insert ({ frames := 3, cells := 2, slots := 10, locals := 100 } : Room) (va_Pc [.ref x, .ref mf] (ht_WS g w)) (ht_Qv g (fun u => ht_InsP dgf g w u x kA dg op sb la en cnt ei k v mf km hm vm N A F L)) 2 10 (ht_A g) := by
  refine Met.ofW (cc := b_X_insert) (maxL := 7) (ret := none) (by decide) rfl ?_
  intro p e s m args below meth c s₁ BB hml hv
  obtain ⟨rfl, HW⟩ := hv
  have HW := ht_I.start HW
  have hx := BB.exec
  have hb := BB.bytes
  have hr := BB.returns
  have hts := atoms_spec (ws := ws_X_insert) BB.pre
  have htb : ∀ w ∈ bg, w.before _ s = true := fun w h => hts w (List.mem_cons_of_mem _ h)
  have hown : s.vm.findClass R_X = some m.cls := findClass_of_methodNamed BB.named
  have hlocks := BB.notSynchronized
  have hl := lv_entry ([.ref x, .ref mf]) (n := 7) (Nat.le_of_ble_eq_true rfl)
  rw [lg_entry_eq]
  generalize (lg_sl ([.ref x, .ref mf]) ++ List.replicate (7 - (lg_sl ([.ref x, .ref mf])).length) Slot.unset).toArray = ls at hl ⊢
  have hl : lv_has ls 7 [(0, .ref x), (1, .ref mf)] := hl
  cases top with
  | none =>
    refine lv_aload_n hx hb d_X_insert_0 rfl (lv_at hl 0 rfl) ?_
    refine ht_cq HW (va_runV (own := R_X) (C := R_X) (As := []) (rest := []) ⟨hx, hb, hml, hown, htb⟩ (c_X_nearestLeaf l g w hX hK hN hT) (cwV 0 htb (ht_gv wd_83 wd_85 sl_1 wd_1 g_X_nearestLeaf) rfl rfl rfl (by decide +kernel) ⟨Nat.le_of_ble_eq_true rfl, Nat.le_of_ble_eq_true rfl⟩) (HW.preV hX rfl _) rfl rfl hl.1 rfl (lv_room (Nat.le_of_ble_eq_true rfl)) d_X_insert_1 ⟨Nat.le_of_ble_eq_true rfl, Nat.le_of_ble_eq_true rfl⟩) (fun q2 u1 H locs pn HW => ?_)
    obtain ⟨pn, eww⟩ := pn
    subst eww
    rcases pn with ⟨er, et⟩ | ⟨b, vb, er, hbF, hp, hbest⟩
    · subst er
      refine W.eq (g2 := F0 _ 4 ls [.null]) rfl ?_
      refine lv_astore_nN (lv' := [(2, .null), (0, .ref x), (1, .ref mf)]) hx hb d_X_insert_4 rfl hl (by decide) rfl (fun ls hl => ?_)
      refine lv_aload_nN hx hb d_X_insert_5 rfl (lv_at hl 0 rfl) ?_
      refine lv_ifnonnullN hx hb d_X_insert_6 ?_
      refine lv_aload_n hx hb d_X_insert_9 rfl (lv_at hl 1 rfl) ?_
      refine lv_aload_n hx hb d_X_insert_10 rfl (lv_at hl 2 rfl) ?_
      refine ht_put (C := R_X) (T := F_X) (N := 9) (v := .ref mf) (ty := .object "HashTree$Node") hx hb htb i_X t_X t_X_ok n_X hown HW hX rfl 3 (by decide) (htb _ wd_43) (fun _ h9 => h9) rfl (by decide +kernel) rfl rfl (Nat.le_of_ble_eq_true rfl) d_X_insert_11 (fun H locs HW => ?_)
      have n_kA_x : kA ≠ x := (ht_ne hK hX (fun z => by cases z))
      have n_mf_x : mf ≠ x := (ht_ne hM hX (fun z => by cases z))
      have n_km_x : km ≠ x := (ht_ne hkm hX (fun z => by cases z))
      have n_hm_x : hm ≠ x := (ht_ne hhm hX (fun z => by cases z))
      have n_vm_x : vm ≠ x := (ht_ne hvm hX (fun z => by cases z))
      obtain ⟨u3, hu3⟩ : ∃ zW : ht_W, zW = ht_up w x (.inr (0, [.ref kA, .ref dg, .ref op, .ref mf, .int cnt, .ref sb, .ref la, .ref en, .int ei]) : va_E) := ⟨_, rfl⟩
      have HW : ht_I g s u3 H locs := by rw [hu3]; exact HW
      have hX : ht_at u3 x (.inr (0, [.ref kA, .ref dg, .ref op, .ref mf, .int cnt, .ref sb, .ref la, .ref en, .int ei]) : va_E) := by rw [hu3]; exact ht_at_self hX
      have hK : ht_at u3 kA (ht_al g 4 (ht_kf k)) := by rw [hu3]; exact ht_at_ne hK n_kA_x
      have hM : ht_at u3 mf (.inr (2, [.ref km, .int 256, .ref hm, .int 0, .ref vm]) : va_E) := by rw [hu3]; exact ht_at_ne hM n_mf_x
      have hkm : ht_at u3 km (ht_al g 4 (ht_kf k)) := by rw [hu3]; exact ht_at_ne hkm n_km_x
      have hhm : ht_at u3 hm (ht_al g 4 (fun _ => 0)) := by rw [hu3]; exact ht_at_ne hhm n_hm_x
      have hvm : ht_at u3 vm (ht_al g 4 (ht_kf v)) := by rw [hu3]; exact ht_at_ne hvm n_vm_x
      have hem := hT.2.2.1.2 rfl
      have hN' : ht_Nd g u3 (va_up N mf (k, 256, ht_kz, false, .inl v)) (va_up A mf (km, hm, vm)) [mf] := by
        intro a ha
        rw [List.mem_singleton.mp ha, va_up_self, va_up_self]
        exact ⟨hM, hkm, by show ht_at _ hm (ht_al g 4 (ht_kf ht_kz)); rw [ht_kf_z]; exact hhm, fun v' hv' => by cases hv'; exact hvm⟩
      have hTF := ht_one_T (dg := dgf) (N := va_up N mf (k, 256, ht_kz, false, .inl v)) (k := k) (v := v) (m := mf) (va_up_self _ _ _)
      refine W.widen (k := 2) (n := 10) (by omega) (by omega) ?_
      refine ht_vret hx hb hr hlocks HW ⟨_, _, [mf], some mf, hX, hN', by rw [hem.2]; exact hTF.1, by rw [hem.2]; exact hTF.2, by rw [hu3]; exact ht_fr.up (Or.inr rfl), Or.inl ⟨rfl, rfl, hem.1⟩, fun a ha => ?_⟩ d_X_insert_14
      rw [hem.1] at ha
      cases ha
    · subst er
      refine W.eq (g2 := F0 _ 4 ls [.ref b]) rfl ?_
      have hlb := hN.lf hbF hp
      have hkb := (hN b hbF).2.1
      rw [(hT.2.2.1.2 rfl).1] at hbF
      cases hbF
  | some t =>
    refine lv_aload_n hx hb d_X_insert_0 rfl (lv_at hl 0 rfl) ?_
    refine ht_cq HW (va_runV (own := R_X) (C := R_X) (As := []) (rest := []) ⟨hx, hb, hml, hown, htb⟩ (c_X_nearestLeaf l g w hX hK hN hT) (cwV 0 htb (ht_gv wd_83 wd_85 sl_1 wd_1 g_X_nearestLeaf) rfl rfl rfl (by decide +kernel) ⟨Nat.le_of_ble_eq_true rfl, Nat.le_of_ble_eq_true rfl⟩) (HW.preV hX rfl _) rfl rfl hl.1 rfl (lv_room (Nat.le_of_ble_eq_true rfl)) d_X_insert_1 ⟨Nat.le_of_ble_eq_true rfl, Nat.le_of_ble_eq_true rfl⟩) (fun q2 u1 H locs pn HW => ?_)
    obtain ⟨pn, eww⟩ := pn
    subst eww
    rcases pn with ⟨er, et⟩ | ⟨b, vb, er, hbF, hp, hbest⟩
    · subst er
      refine W.eq (g2 := F0 _ 4 ls [.null]) rfl ?_
      cases et
    · subst er
      refine W.eq (g2 := F0 _ 4 ls [.ref b]) rfl ?_
      have hlb := hN.lf hbF hp
      have hkb := (hN b hbF).2.1
      refine lv_astore_n (lv' := [(2, .ref b), (0, .ref x), (1, .ref mf)]) hx hb d_X_insert_4 rfl hl (by decide) rfl (fun ls hl => ?_)
      refine lv_aload_n hx hb d_X_insert_5 rfl (lv_at hl 0 rfl) ?_
      refine lv_ifnonnull (tgt := 15) hx hb d_X_insert_6 (by decide) ?_
      refine lv_aload_n hx hb d_X_insert_15 rfl (lv_at hl 1 rfl) ?_
      refine ht_get (C := R_X) (T := F_X) (N := 9) (v := .ref kA) hx hb htb i_X hown HW hX rfl 0 (by decide) (htb _ wd_40) (fun _ h9 => h9) rfl d_X_insert_16 ?_
      refine lv_aload_n hx hb d_X_insert_19 rfl (lv_at hl 0 rfl) ?_
      refine ht_get (C := R_L) (T := F_L) (N := 5) (v := .ref (A b).1) hx hb htb i_L hown HW hlb rfl 0 (by decide) (htb _ wd_128) (fun x h9 => u_same (htb _ wd_129) x h9) rfl d_X_insert_20 ?_
      refine ht_ci HW (va_runS (own := R_X) (As := [.ref kA, .ref (A b).1]) (rest := []) ⟨hx, hb, hml, hown, htb⟩ (c_X_partingLevel l g w hK hkb) (va_cwS 2 htb (ht_gs wd_96 wd_97 wd_1 g_X_partingLevel) rfl rfl rfl (by decide +kernel) ⟨Nat.le_of_ble_eq_true rfl, Nat.le_of_ble_eq_true rfl⟩) (HW.preS _) rfl rfl hl.1 rfl (lv_room (Nat.le_of_ble_eq_true rfl)) d_X_insert_23 ⟨Nat.le_of_ble_eq_true rfl, Nat.le_of_ble_eq_true rfl⟩) (fun q4 u3 H locs pu3 HW => ?_)
      obtain ⟨eq4, eu3⟩ := pu3
      subst eu3
      refine lv_topi (fun pv epv => ?_)
      refine lv_istore_n (lv' := [(3, .int pv), (2, .ref b), (0, .ref x), (1, .ref mf)]) hx hb d_X_insert_26 rfl hl (by decide) rfl (fun ls hl => ?_)
      obtain ⟨pl, epl⟩ : ∃ z9 : Nat, z9 = ht_part k (ht_rk (N b)) := ⟨_, rfl⟩
      have epv : pv = nI pl := by rw [epv, eq4, epl]
      have hqs : (ht_rk (N b), vb) ∈ L := (hT.2.2.2.1 b hbF vb hp).2
      have hmax : ∀ q ∈ L, ht_part k q.1 ≤ pl := by rw [epl]; exact hbest
      have hpl : pl < 256 := by
        rcases Nat.lt_or_ge pl 256 with q9 | q9
        · exact q9
        · exact absurd (ht_part_eq.mp (Nat.le_antisymm (ht_part_le k (ht_rk (N b))) (by rw [← epl]; exact q9))).symm (hnk _ hqs)
      refine lv_aload_n hx hb d_X_insert_27 rfl (lv_at hl 2 rfl) ?_
      refine lv_iload_n hx hb d_X_insert_28 rfl (lv_at hl 0 rfl) ?_
      refine ht_cq HW (va_runV (own := R_X) (C := R_X) (As := [.int pv]) (rest := []) ⟨hx, hb, hml, hown, htb⟩ (c_X_stalePath l g w hX hK hN hT pl (by omega) pv epv hqs (by rw [epl]; exact Nat.le_refl _)) (cwV 1 htb (ht_gv wd_106 wd_108 sl_2 wd_1 g_X_stalePath) rfl rfl rfl (by decide +kernel) ⟨Nat.le_of_ble_eq_true rfl, Nat.le_of_ble_eq_true rfl⟩) (HW.preV hX rfl _) rfl rfl hl.1 rfl (lv_room (Nat.le_of_ble_eq_true rfl)) d_X_insert_29 ⟨Nat.le_of_ble_eq_true rfl, Nat.le_of_ble_eq_true rfl⟩) (fun q6 u5 H locs ps HW => ?_)
      obtain ⟨N1, be, hN1, hfr1, hmk, hsl⟩ := ps
      have hxF := hN.x hX
      have hKF := hN.l hK
      have hkmF := hN.l hkm
      have hhmF := hN.l hhm
      have hvmF := hN.l hvm
      have hX : ht_at u5 x (.inr (0, [.ref kA, .ref dg, .ref op, .ref t, .int cnt, .ref sb, .ref la, .ref en, .int ei]) : va_E) := hfr1.at hX hxF
      have hK : ht_at u5 kA (ht_al g 4 (ht_kf k)) := hfr1.at hK hKF
      have hM : ht_at u5 mf (.inr (2, [.ref km, .int 256, .ref hm, .int 0, .ref vm]) : va_E) := hfr1.at hM hmF
      have hkm : ht_at u5 km (ht_al g 4 (ht_kf k)) := hfr1.at hkm hkmF
      have hhm : ht_at u5 hm (ht_al g 4 (fun _ => 0)) := hfr1.at hhm hhmF
      have hvm : ht_at u5 vm (ht_al g 4 (ht_kf v)) := hfr1.at hvm hvmF
      have hbeF := hsl.1
      have hbe := (hN1 be hbeF).1
      have n_x_be : x ≠ be := fun z9 => hxF (by rw [z9]; exact hbeF)
      have n_kA_be : kA ≠ be := fun z9 => hKF (by rw [z9]; exact hbeF)
      have n_mf_be : mf ≠ be := fun z9 => hmF (by rw [z9]; exact hbeF)
      have n_km_be : km ≠ be := fun z9 => hkmF (by rw [z9]; exact hbeF)
      have n_hm_be : hm ≠ be := fun z9 => hhmF (by rw [z9]; exact hbeF)
      have n_vm_be : vm ≠ be := fun z9 => hvmF (by rw [z9]; exact hbeF)
      rcases q6 with _ | ab
      · have etb : be = t := by
          rcases hsl.2.2 with ⟨-, q9⟩ | ⟨c9, z9, q9, -⟩
          · exact (Option.some.inj q9).symm
          · cases q9
        subst etb
        refine W.eq (g2 := F0 _ 32 ls [.null]) rfl ?_
        refine lv_astoreN (lv' := [(4, .null), (3, .int pv), (2, .ref b), (0, .ref x), (1, .ref mf)]) hx hb d_X_insert_32 hl (by decide) rfl (fun ls hl => ?_)
        refine lv_aloadN hx hb d_X_insert_34 (lv_at hl 0 rfl) ?_
        refine lv_ifnonnullN hx hb d_X_insert_36 ?_
        refine lv_aload_n hx hb d_X_insert_39 rfl (lv_at hl 3 rfl) ?_
        refine ht_get (C := R_X) (T := F_X) (N := 9) (v := .ref be) hx hb htb i_X hown HW hX rfl 3 (by decide) (htb _ wd_43) (fun _ h9 => h9) rfl d_X_insert_40 ?_
        refine lv_goto (tgt := 63) hx hb d_X_insert_43 (by decide) ?_
        refine lv_astore (lv' := [(5, .ref be), (4, .null), (3, .int pv), (2, .ref b), (0, .ref x), (1, .ref mf)]) hx hb d_X_insert_63 hl (by decide) rfl (fun ls hl => ?_)
        refine lv_aload hx hb d_X_insert_65 (lv_at hl 0 rfl) ?_
        refine lv_iconst (v := 0) hx hb d_X_insert_67 (by decide) ?_
        refine ht_npt (b := false) hx hb htb hown HW hbe (htb _ wd_142) (fun _ h9 => h9) d_X_insert_68 (fun H locs HW => ?_)
        obtain ⟨u7, hu7⟩ : ∃ zW : ht_W, zW = ht_up u5 be (ht_nc (ht_sf (N1 be) false) ((A be).1) ((A be).2.1) ((A be).2.2)) := ⟨_, rfl⟩
        have HW : ht_I g s u7 H locs := by rw [hu7]; exact HW
        have hX : ht_at u7 x (.inr (0, [.ref kA, .ref dg, .ref op, .ref be, .int cnt, .ref sb, .ref la, .ref en, .int ei]) : va_E) := by rw [hu7]; exact ht_at_ne hX n_x_be
        have hK : ht_at u7 kA (ht_al g 4 (ht_kf k)) := by rw [hu7]; exact ht_at_ne hK n_kA_be
        have hM : ht_at u7 mf (.inr (2, [.ref km, .int 256, .ref hm, .int 0, .ref vm]) : va_E) := by rw [hu7]; exact ht_at_ne hM n_mf_be
        have hkm : ht_at u7 km (ht_al g 4 (ht_kf k)) := by rw [hu7]; exact ht_at_ne hkm n_km_be
        have hhm : ht_at u7 hm (ht_al g 4 (fun _ => 0)) := by rw [hu7]; exact ht_at_ne hhm n_hm_be
        have hvm : ht_at u7 vm (ht_al g 4 (ht_kf v)) := by rw [hu7]; exact ht_at_ne hvm n_vm_be
        have hbe : ht_at u7 be (ht_nc (ht_sf (N1 be) false) ((A be).1) ((A be).2.1) ((A be).2.2)) := by rw [hu7]; exact ht_at_self hbe
        have hN2 : ht_Nd g u7 (va_up N1 be (ht_sf (N1 be) false)) A F := by rw [hu7]; exact hN1.sf hbeF false
        refine lv_aload_n hx hb d_X_insert_71 rfl (lv_at hl 4 rfl) ?_
        refine ht_get (C := R_X) (T := F_X) (N := 9) (v := .ref kA) hx hb htb i_X hown HW hX rfl 0 (by decide) (htb _ wd_40) (fun _ h9 => h9) rfl d_X_insert_72 ?_
        refine lv_iload_n hx hb d_X_insert_75 rfl (lv_at hl 2 rfl) ?_
        refine ht_ci HW (va_runS (own := R_X) (As := [.ref kA, .int pv]) (rest := []) ⟨hx, hb, hml, hown, htb⟩ (c_X_isOne l g u7 hK pl hpl _ epv) (va_cwS 2 htb (ht_gs wd_88 wd_89 wd_1 g_X_isOne) rfl rfl rfl (by decide +kernel) ⟨Nat.le_of_ble_eq_true rfl, Nat.le_of_ble_eq_true rfl⟩) (HW.preS _) rfl rfl hl.1 rfl (lv_room (Nat.le_of_ble_eq_true rfl)) d_X_insert_76 ⟨Nat.le_of_ble_eq_true rfl, Nat.le_of_ble_eq_true rfl⟩) (fun q9 u8 H locs pu8 HW => ?_)
        obtain ⟨eq9, eu8⟩ := pu8
        subst eu8
        rw [eq9]
        cases hbit : ht_bit k pl
        · refine W.eq (g2 := F0 _ 79 ls [.int 0]) rfl ?_
          refine lv_istore (lv' := [(6, .int 0), (5, .ref be), (4, .null), (3, .int pv), (2, .ref b), (0, .ref x), (1, .ref mf)]) hx hb d_X_insert_79 hl (by decide) rfl (fun ls hl => ?_)
          refine lv_aload_n hx hb d_X_insert_81 rfl (lv_at hl 5 rfl) ?_
          refine lv_aloadN hx hb d_X_insert_82 (lv_at hl 2 rfl) ?_
          refine ht_new (C := R_B) (T := F_B) (N := 6) (ci := 3) (fs := [.null, .int 0, .null, .int 0, .null, .null]) hx hb htb i_B t_B t_B_ok hown (htb _ wd_87) (htb _ wd_160) (htb _ wd_8) HW rfl (fun j hj => by rcases (show j = 0 ∨ j = 1 ∨ j = 2 ∨ j = 3 ∨ j = 4 ∨ j = 5 by omega) with rfl | rfl | rfl | rfl | rfl | rfl <;> rfl) (Nat.le_of_ble_eq_true rfl) (Nat.le_of_ble_eq_true rfl) d_X_insert_84 (fun Bq H hq_Bq HW => ?_)
          obtain ⟨u10, hu10⟩ : ∃ zW : ht_W, zW = ht_nw u7 Bq (.inr (3, [.null, .int 0, .null, .int 0, .null, .null]) : va_E) := ⟨_, rfl⟩
          have HW := HW.to hu10.symm
          have n_x_Bq : x ≠ Bq := fun z9 => hq_Bq (by rw [← z9]; exact hX.1)
          have n_kA_Bq : kA ≠ Bq := fun z9 => hq_Bq (by rw [← z9]; exact hK.1)
          have n_mf_Bq : mf ≠ Bq := fun z9 => hq_Bq (by rw [← z9]; exact hM.1)
          have n_km_Bq : km ≠ Bq := fun z9 => hq_Bq (by rw [← z9]; exact hkm.1)
          have n_hm_Bq : hm ≠ Bq := fun z9 => hq_Bq (by rw [← z9]; exact hhm.1)
          have n_vm_Bq : vm ≠ Bq := fun z9 => hq_Bq (by rw [← z9]; exact hvm.1)
          have n_be_Bq : be ≠ Bq := fun z9 => hq_Bq (by rw [← z9]; exact hbe.1)
          have hX : ht_at u10 x (.inr (0, [.ref kA, .ref dg, .ref op, .ref be, .int cnt, .ref sb, .ref la, .ref en, .int ei]) : va_E) := by rw [hu10]; exact ht_at_old hX hq_Bq
          have hK : ht_at u10 kA (ht_al g 4 (ht_kf k)) := by rw [hu10]; exact ht_at_old hK hq_Bq
          have hM : ht_at u10 mf (.inr (2, [.ref km, .int 256, .ref hm, .int 0, .ref vm]) : va_E) := by rw [hu10]; exact ht_at_old hM hq_Bq
          have hkm : ht_at u10 km (ht_al g 4 (ht_kf k)) := by rw [hu10]; exact ht_at_old hkm hq_Bq
          have hhm : ht_at u10 hm (ht_al g 4 (fun _ => 0)) := by rw [hu10]; exact ht_at_old hhm hq_Bq
          have hvm : ht_at u10 vm (ht_al g 4 (ht_kf v)) := by rw [hu10]; exact ht_at_old hvm hq_Bq
          have hbe : ht_at u10 be (ht_nc (ht_sf (N1 be) false) ((A be).1) ((A be).2.1) ((A be).2.2)) := by rw [hu10]; exact ht_at_old hbe hq_Bq
          have h_Bq : ht_at u10 Bq (.inr (3, [.null, .int 0, .null, .int 0, .null, .null]) : va_E) := by rw [hu10]; exact ht_at_new
          have hu3N : ht_Nd g u10 (va_up N1 be (ht_sf (N1 be) false)) A F := by rw [hu10]; exact hN2.nw hq_Bq
          refine lv_dup hx hb d_X_insert_87 rfl ?_
          refine lv_aload_n hx hb d_X_insert_88 rfl (lv_at hl 6 rfl) ?_
          refine ht_get (C := R_L) (T := F_L) (N := 5) (v := .ref km) hx hb htb i_L hown HW hM rfl 0 (by decide) (htb _ wd_128) (fun x h9 => u_same (htb _ wd_129) x h9) rfl d_X_insert_89 ?_
          refine lv_iload_n hx hb d_X_insert_92 rfl (lv_at hl 3 rfl) ?_
          refine lv_iload hx hb d_X_insert_93 (lv_at hl 0 rfl) ?_
          refine lv_if_eq (tgt := 103) hx hb d_X_insert_95 (by decide) (fun c95 => ?_) (fun c95 => ?_)
          · refine lv_aload_n hx hb d_X_insert_103 rfl (lv_at hl 6 rfl) ?_
            refine lv_iload hx hb d_X_insert_104 (lv_at hl 0 rfl) ?_
            refine lv_if_eq (tgt := 113) hx hb d_X_insert_106 (by decide) (fun c106 => ?_) (fun c106 => ?_)
            · refine lv_aload hx hb d_X_insert_113 (lv_at hl 1 rfl) ?_
              refine ht_cv HW (va_runI (own := R_X) (As := [.ref km, .int pv, .ref mf, .ref be]) (rest := [.ref Bq, .null, .ref x]) ⟨hx, hb, hml, hown, htb⟩ (c_B_init l g u10 (ka := km) (z := mf) (on := be) (lv := pv) h_Bq) (cwI 4 htb g_B_init rfl rfl rfl (htb _ wd_8) (htb _ wd_161) (htb _ wd_162) rfl (by decide +kernel) ⟨Nat.le_of_ble_eq_true rfl, Nat.le_of_ble_eq_true rfl⟩) (HW.preS _) rfl rfl hl.1 rfl (lv_room (Nat.le_of_ble_eq_true rfl)) d_X_insert_115 ⟨Nat.le_of_ble_eq_true rfl, Nat.le_of_ble_eq_true rfl⟩) (fun u11 H locs pb HW => ?_)
              obtain ⟨qh, hq_qh, eu11⟩ := pb
              have hBq0 := h_Bq
              have hX : ht_at u11 x (.inr (0, [.ref kA, .ref dg, .ref op, .ref be, .int cnt, .ref sb, .ref la, .ref en, .int ei]) : va_E) := by rw [eu11]; exact ht_at_ne (ht_at_old hX hq_qh) n_x_Bq
              have hK : ht_at u11 kA (ht_al g 4 (ht_kf k)) := by rw [eu11]; exact ht_at_ne (ht_at_old hK hq_qh) n_kA_Bq
              have hM : ht_at u11 mf (.inr (2, [.ref km, .int 256, .ref hm, .int 0, .ref vm]) : va_E) := by rw [eu11]; exact ht_at_ne (ht_at_old hM hq_qh) n_mf_Bq
              have hkm : ht_at u11 km (ht_al g 4 (ht_kf k)) := by rw [eu11]; exact ht_at_ne (ht_at_old hkm hq_qh) n_km_Bq
              have hhm : ht_at u11 hm (ht_al g 4 (fun _ => 0)) := by rw [eu11]; exact ht_at_ne (ht_at_old hhm hq_qh) n_hm_Bq
              have hvm : ht_at u11 vm (ht_al g 4 (ht_kf v)) := by rw [eu11]; exact ht_at_ne (ht_at_old hvm hq_qh) n_vm_Bq
              have hbe : ht_at u11 be (ht_nc (ht_sf (N1 be) false) ((A be).1) ((A be).2.1) ((A be).2.2)) := by rw [eu11]; exact ht_at_ne (ht_at_old hbe hq_qh) n_be_Bq
              have n_Bq_qh : Bq ≠ qh := fun z9 => hq_qh (by rw [← z9]; exact hBq0.1)
              have h_Bq : ht_at u11 Bq (.inr (3, [.ref km, .int pv, .ref qh, .int 0, .ref mf, .ref be]) : va_E) := by rw [eu11]; exact ht_at_self (ht_at_old h_Bq hq_qh)
              have h_qh : ht_at u11 qh (ht_al g 4 (fun _ => 0)) := by rw [eu11]; exact ht_at_ne ht_at_new n_Bq_qh.symm
              have hBqF : Bq ∉ F := fun z9 => hq_Bq (by exact (hN2 Bq z9).1.1)
              have hN4 : ht_Nd g u11 (va_up N1 be (ht_sf (N1 be) false)) A F := by rw [eu11]; exact ((hu3N).nw hq_qh).upo (ht_at_old hBq0 hq_qh) hBqF
              refine ht_cv HW (va_runV (own := R_X) (C := R_X) (As := [.null, .ref Bq]) (rest := []) ⟨hx, hb, hml, hown, htb⟩ (c_X_hang_N l g u11 (top := some be) hX Bq) (cwV 2 htb (ht_gv wd_178 wd_180 sl_4 wd_1 g_X_hang) rfl rfl rfl (by decide +kernel) ⟨Nat.le_of_ble_eq_true rfl, Nat.le_of_ble_eq_true rfl⟩) (HW.preV hX rfl _) rfl rfl hl.1 rfl (lv_room (Nat.le_of_ble_eq_true rfl)) d_X_insert_118 ⟨Nat.le_of_ble_eq_true rfl, Nat.le_of_ble_eq_true rfl⟩) (fun u12 H locs ph5 HW => ?_)
              have hM : ht_at u12 mf (.inr (2, [.ref km, .int 256, .ref hm, .int 0, .ref vm]) : va_E) := by rw [ph5]; exact ht_at_ne hM (ht_ne hM hX (fun z => by cases z))
              have hkm : ht_at u12 km (ht_al g 4 (ht_kf k)) := by rw [ph5]; exact ht_at_ne hkm (ht_ne hkm hX (fun z => by cases z))
              have hhm : ht_at u12 hm (ht_al g 4 (fun _ => 0)) := by rw [ph5]; exact ht_at_ne hhm (ht_ne hhm hX (fun z => by cases z))
              have hvm : ht_at u12 vm (ht_al g 4 (ht_kf v)) := by rw [ph5]; exact ht_at_ne hvm (ht_ne hvm hX (fun z => by cases z))
              have h_Bq : ht_at u12 Bq (.inr (3, [.ref km, .int pv, .ref qh, .int 0, .ref mf, .ref be]) : va_E) := by rw [ph5]; exact ht_at_ne h_Bq (Ne.symm n_x_Bq)
              have h_qh : ht_at u12 qh (ht_al g 4 (fun _ => 0)) := by rw [ph5]; exact ht_at_ne h_qh (ht_ne_lo h_qh hX)
              have hX5 : ht_at u12 x (.inr (0, [.ref kA, .ref dg, .ref op, va_rf (some Bq), .int cnt, .ref sb, .ref la, .ref en, .int ei])) := by rw [ph5]; exact ht_at_self hX
              have hN5 : ht_Nd g u12 (va_up N1 be (ht_sf (N1 be) false)) A F := by rw [ph5]; exact hN4.upo hX hxF
              have hmBq : mf ≠ Bq := n_mf_Bq
              have h_Bq : ht_at u12 Bq (.inr (3, [.ref km, .int (nI pl), .ref qh, .int 0, .ref (ht_zo (be, be) (ht_bit k pl) mf).1, .ref (ht_zo (be, be) (ht_bit k pl) mf).2])) := by rw [hbit, ← epv]; exact h_Bq
              have hNF := ht_Nd_ext (p := pl) (zo := ht_zo (be, be) (ht_bit k pl) mf) hN5 hmF hBqF hmBq hM hkm hhm hvm h_Bq h_qh
              have hpu := ht_ins_pure (v := v) (B := Bq) (N3 := (va_up N1 be (ht_sf (N1 be) false))) hT hFH hsl hmk hpl hmax hqs epl.symm hmF hBqF hmBq (fun a ha => by
                by_cases e9 : a = be
                · rw [if_pos e9, e9, va_up_self]
                  exact ⟨(hmk.rp be).2.1, (hmk.rp be).2.2.1, (hmk.rp be).2.2.2, rfl⟩
                · rw [if_neg e9, va_up_ne _ _ e9]
                  exact ⟨(hmk.rp a).2.1, (hmk.rp a).2.2.1, (hmk.rp a).2.2.2, rfl⟩) (fun a ha _ => by
                by_cases e9 : a = be
                · rw [e9, va_up_self]
                  exact (hmk.rp be).1
                · rw [va_up_ne _ _ e9]
                  exact (hmk.rp a).1) (fun a zo e9 _ => by cases e9)
              rw [if_pos rfl] at hpu
              have hframe : ht_fr (fun b => b ∈ F ∨ b = x) w u12 := by
                have f1 : ht_fr (fun b => b ∈ F ∨ b = x) w u7 := by
                  rw [hu7]
                  exact (hfr1.mono (fun b h9 => Or.inl h9)).trans (ht_fr.up (Or.inl hbeF))
                have f2 : ht_fr (fun b => b ∈ F ∨ b = x) w u10 := by
                  rw [hu10]
                  exact f1.trans (ht_fr.nw hq_Bq)
                have hBw : Bq ∉ w.1 ∨ Bq ∈ F ∨ Bq = x := by
                  by_cases z9 : Bq ∈ F ∨ Bq = x
                  · exact Or.inr z9
                  · exact Or.inl (fun y9 => hq_Bq (f1 Bq y9 z9).1)
                have f3 : ht_fr (fun b => b ∈ F ∨ b = x) w u11 := by
                  rw [eu11]
                  intro b9 hb9 hn9
                  obtain ⟨y1, y2⟩ := (f2.trans (ht_fr.nw hq_qh)) b9 hb9 hn9
                  refine ⟨y1, ?_⟩
                  have nB : b9 ≠ Bq := fun z9 => hq_Bq ((f1 Bq (by rw [← z9]; exact hb9) (by rw [← z9]; exact hn9)).1)
                  exact (va_up_ne _ _ nB).trans y2
                rw [ph5]
                exact f3.trans (ht_fr.up (Or.inr rfl))
              have hBw : Bq ∉ w.1 := fun y9 => by
                by_cases z9 : Bq ∈ F ∨ Bq = x
                · rcases z9 with z9 | z9
                  · exact hBqF z9
                  · exact n_x_Bq z9.symm
                · exact hq_Bq (by rw [hu7]; exact ((hfr1.mono (fun b h9 => Or.inl h9)) Bq y9 z9).1)
              have hqw : qh ∉ w.1 := fun y9 => by
                by_cases z9 : qh ∈ F ∨ qh = x
                · rcases z9 with z9 | z9
                  · exact hN5.l h_qh z9
                  · exact ht_ne_lo h_qh hX5 z9
                · exact hq_qh (by rw [hu10, hu7]; exact List.mem_append_left _ ((hfr1.mono (fun b h9 => Or.inl h9)) qh y9 z9).1)
              refine ht_vret hx hb hr hlocks HW ⟨_, _, mf :: Bq :: F, some Bq, hX5, hNF, hpu.1, hpu.2, hframe, Or.inr ⟨Bq, qh, rfl, rfl, hBw, hqw, n_Bq_qh, _, by rw [va_up_self]; rfl⟩, fun a e9 v' hv' => ?_⟩ d_X_insert_121
              have n1 : a ≠ Bq := fun z9 => hBqF (by rw [← z9]; exact e9)
              have n2 : a ≠ mf := fun z9 => hmF (by rw [← z9]; exact e9)
              rw [va_up_ne _ _ n1, va_up_ne _ _ n2] at hv'
              by_cases e7 : a = be
              · rw [e7, va_up_self] at hv'
                rw [e7]
                exact (hmk.rp be).1.symm.trans hv'
              · rw [va_up_ne _ _ e7] at hv'
                exact (hmk.rp a).1.symm.trans hv'
            · exact absurd rfl c106
          · exact absurd rfl c95
        · refine W.eq (g2 := F0 _ 79 ls [.int 1]) rfl ?_
          refine lv_istore (lv' := [(6, .int 1), (5, .ref be), (4, .null), (3, .int pv), (2, .ref b), (0, .ref x), (1, .ref mf)]) hx hb d_X_insert_79 hl (by decide) rfl (fun ls hl => ?_)
          refine lv_aload_n hx hb d_X_insert_81 rfl (lv_at hl 5 rfl) ?_
          refine lv_aloadN hx hb d_X_insert_82 (lv_at hl 2 rfl) ?_
          refine ht_new (C := R_B) (T := F_B) (N := 6) (ci := 3) (fs := [.null, .int 0, .null, .int 0, .null, .null]) hx hb htb i_B t_B t_B_ok hown (htb _ wd_87) (htb _ wd_160) (htb _ wd_8) HW rfl (fun j hj => by rcases (show j = 0 ∨ j = 1 ∨ j = 2 ∨ j = 3 ∨ j = 4 ∨ j = 5 by omega) with rfl | rfl | rfl | rfl | rfl | rfl <;> rfl) (Nat.le_of_ble_eq_true rfl) (Nat.le_of_ble_eq_true rfl) d_X_insert_84 (fun Bq H hq_Bq HW => ?_)
          obtain ⟨u13, hu13⟩ : ∃ zW : ht_W, zW = ht_nw u7 Bq (.inr (3, [.null, .int 0, .null, .int 0, .null, .null]) : va_E) := ⟨_, rfl⟩
          have HW := HW.to hu13.symm
          have n_x_Bq : x ≠ Bq := fun z9 => hq_Bq (by rw [← z9]; exact hX.1)
          have n_kA_Bq : kA ≠ Bq := fun z9 => hq_Bq (by rw [← z9]; exact hK.1)
          have n_mf_Bq : mf ≠ Bq := fun z9 => hq_Bq (by rw [← z9]; exact hM.1)
          have n_km_Bq : km ≠ Bq := fun z9 => hq_Bq (by rw [← z9]; exact hkm.1)
          have n_hm_Bq : hm ≠ Bq := fun z9 => hq_Bq (by rw [← z9]; exact hhm.1)
          have n_vm_Bq : vm ≠ Bq := fun z9 => hq_Bq (by rw [← z9]; exact hvm.1)
          have n_be_Bq : be ≠ Bq := fun z9 => hq_Bq (by rw [← z9]; exact hbe.1)
          have hX : ht_at u13 x (.inr (0, [.ref kA, .ref dg, .ref op, .ref be, .int cnt, .ref sb, .ref la, .ref en, .int ei]) : va_E) := by rw [hu13]; exact ht_at_old hX hq_Bq
          have hK : ht_at u13 kA (ht_al g 4 (ht_kf k)) := by rw [hu13]; exact ht_at_old hK hq_Bq
          have hM : ht_at u13 mf (.inr (2, [.ref km, .int 256, .ref hm, .int 0, .ref vm]) : va_E) := by rw [hu13]; exact ht_at_old hM hq_Bq
          have hkm : ht_at u13 km (ht_al g 4 (ht_kf k)) := by rw [hu13]; exact ht_at_old hkm hq_Bq
          have hhm : ht_at u13 hm (ht_al g 4 (fun _ => 0)) := by rw [hu13]; exact ht_at_old hhm hq_Bq
          have hvm : ht_at u13 vm (ht_al g 4 (ht_kf v)) := by rw [hu13]; exact ht_at_old hvm hq_Bq
          have hbe : ht_at u13 be (ht_nc (ht_sf (N1 be) false) ((A be).1) ((A be).2.1) ((A be).2.2)) := by rw [hu13]; exact ht_at_old hbe hq_Bq
          have h_Bq : ht_at u13 Bq (.inr (3, [.null, .int 0, .null, .int 0, .null, .null]) : va_E) := by rw [hu13]; exact ht_at_new
          have hu3N : ht_Nd g u13 (va_up N1 be (ht_sf (N1 be) false)) A F := by rw [hu13]; exact hN2.nw hq_Bq
          refine lv_dup hx hb d_X_insert_87 rfl ?_
          refine lv_aload_n hx hb d_X_insert_88 rfl (lv_at hl 6 rfl) ?_
          refine ht_get (C := R_L) (T := F_L) (N := 5) (v := .ref km) hx hb htb i_L hown HW hM rfl 0 (by decide) (htb _ wd_128) (fun x h9 => u_same (htb _ wd_129) x h9) rfl d_X_insert_89 ?_
          refine lv_iload_n hx hb d_X_insert_92 rfl (lv_at hl 3 rfl) ?_
          refine lv_iload hx hb d_X_insert_93 (lv_at hl 0 rfl) ?_
          refine lv_if_eq (tgt := 103) hx hb d_X_insert_95 (by decide) (fun c95 => ?_) (fun c95 => ?_)
          · exact absurd c95 (by decide)
          · refine lv_aload hx hb d_X_insert_98 (lv_at hl 1 rfl) ?_
            refine lv_goto (tgt := 104) hx hb d_X_insert_100 (by decide) ?_
            refine lv_iload hx hb d_X_insert_104 (lv_at hl 0 rfl) ?_
            refine lv_if_eq (tgt := 113) hx hb d_X_insert_106 (by decide) (fun c106 => ?_) (fun c106 => ?_)
            · exact absurd c106 (by decide)
            · refine lv_aload_n hx hb d_X_insert_109 rfl (lv_at hl 6 rfl) ?_
              refine lv_goto (tgt := 115) hx hb d_X_insert_110 (by decide) ?_
              refine ht_cv HW (va_runI (own := R_X) (As := [.ref km, .int pv, .ref be, .ref mf]) (rest := [.ref Bq, .null, .ref x]) ⟨hx, hb, hml, hown, htb⟩ (c_B_init l g u13 (ka := km) (z := be) (on := mf) (lv := pv) h_Bq) (cwI 4 htb g_B_init rfl rfl rfl (htb _ wd_8) (htb _ wd_161) (htb _ wd_162) rfl (by decide +kernel) ⟨Nat.le_of_ble_eq_true rfl, Nat.le_of_ble_eq_true rfl⟩) (HW.preS _) rfl rfl hl.1 rfl (lv_room (Nat.le_of_ble_eq_true rfl)) d_X_insert_115 ⟨Nat.le_of_ble_eq_true rfl, Nat.le_of_ble_eq_true rfl⟩) (fun u14 H locs pb HW => ?_)
              obtain ⟨qh, hq_qh, eu14⟩ := pb
              have hBq0 := h_Bq
              have hX : ht_at u14 x (.inr (0, [.ref kA, .ref dg, .ref op, .ref be, .int cnt, .ref sb, .ref la, .ref en, .int ei]) : va_E) := by rw [eu14]; exact ht_at_ne (ht_at_old hX hq_qh) n_x_Bq
              have hK : ht_at u14 kA (ht_al g 4 (ht_kf k)) := by rw [eu14]; exact ht_at_ne (ht_at_old hK hq_qh) n_kA_Bq
              have hM : ht_at u14 mf (.inr (2, [.ref km, .int 256, .ref hm, .int 0, .ref vm]) : va_E) := by rw [eu14]; exact ht_at_ne (ht_at_old hM hq_qh) n_mf_Bq
              have hkm : ht_at u14 km (ht_al g 4 (ht_kf k)) := by rw [eu14]; exact ht_at_ne (ht_at_old hkm hq_qh) n_km_Bq
              have hhm : ht_at u14 hm (ht_al g 4 (fun _ => 0)) := by rw [eu14]; exact ht_at_ne (ht_at_old hhm hq_qh) n_hm_Bq
              have hvm : ht_at u14 vm (ht_al g 4 (ht_kf v)) := by rw [eu14]; exact ht_at_ne (ht_at_old hvm hq_qh) n_vm_Bq
              have hbe : ht_at u14 be (ht_nc (ht_sf (N1 be) false) ((A be).1) ((A be).2.1) ((A be).2.2)) := by rw [eu14]; exact ht_at_ne (ht_at_old hbe hq_qh) n_be_Bq
              have n_Bq_qh : Bq ≠ qh := fun z9 => hq_qh (by rw [← z9]; exact hBq0.1)
              have h_Bq : ht_at u14 Bq (.inr (3, [.ref km, .int pv, .ref qh, .int 0, .ref be, .ref mf]) : va_E) := by rw [eu14]; exact ht_at_self (ht_at_old h_Bq hq_qh)
              have h_qh : ht_at u14 qh (ht_al g 4 (fun _ => 0)) := by rw [eu14]; exact ht_at_ne ht_at_new n_Bq_qh.symm
              have hBqF : Bq ∉ F := fun z9 => hq_Bq (by exact (hN2 Bq z9).1.1)
              have hN4 : ht_Nd g u14 (va_up N1 be (ht_sf (N1 be) false)) A F := by rw [eu14]; exact ((hu3N).nw hq_qh).upo (ht_at_old hBq0 hq_qh) hBqF
              refine ht_cv HW (va_runV (own := R_X) (C := R_X) (As := [.null, .ref Bq]) (rest := []) ⟨hx, hb, hml, hown, htb⟩ (c_X_hang_N l g u14 (top := some be) hX Bq) (cwV 2 htb (ht_gv wd_178 wd_180 sl_4 wd_1 g_X_hang) rfl rfl rfl (by decide +kernel) ⟨Nat.le_of_ble_eq_true rfl, Nat.le_of_ble_eq_true rfl⟩) (HW.preV hX rfl _) rfl rfl hl.1 rfl (lv_room (Nat.le_of_ble_eq_true rfl)) d_X_insert_118 ⟨Nat.le_of_ble_eq_true rfl, Nat.le_of_ble_eq_true rfl⟩) (fun u15 H locs ph5 HW => ?_)
              have hM : ht_at u15 mf (.inr (2, [.ref km, .int 256, .ref hm, .int 0, .ref vm]) : va_E) := by rw [ph5]; exact ht_at_ne hM (ht_ne hM hX (fun z => by cases z))
              have hkm : ht_at u15 km (ht_al g 4 (ht_kf k)) := by rw [ph5]; exact ht_at_ne hkm (ht_ne hkm hX (fun z => by cases z))
              have hhm : ht_at u15 hm (ht_al g 4 (fun _ => 0)) := by rw [ph5]; exact ht_at_ne hhm (ht_ne hhm hX (fun z => by cases z))
              have hvm : ht_at u15 vm (ht_al g 4 (ht_kf v)) := by rw [ph5]; exact ht_at_ne hvm (ht_ne hvm hX (fun z => by cases z))
              have h_Bq : ht_at u15 Bq (.inr (3, [.ref km, .int pv, .ref qh, .int 0, .ref be, .ref mf]) : va_E) := by rw [ph5]; exact ht_at_ne h_Bq (Ne.symm n_x_Bq)
              have h_qh : ht_at u15 qh (ht_al g 4 (fun _ => 0)) := by rw [ph5]; exact ht_at_ne h_qh (ht_ne_lo h_qh hX)
              have hX5 : ht_at u15 x (.inr (0, [.ref kA, .ref dg, .ref op, va_rf (some Bq), .int cnt, .ref sb, .ref la, .ref en, .int ei])) := by rw [ph5]; exact ht_at_self hX
              have hN5 : ht_Nd g u15 (va_up N1 be (ht_sf (N1 be) false)) A F := by rw [ph5]; exact hN4.upo hX hxF
              have hmBq : mf ≠ Bq := n_mf_Bq
              have h_Bq : ht_at u15 Bq (.inr (3, [.ref km, .int (nI pl), .ref qh, .int 0, .ref (ht_zo (be, be) (ht_bit k pl) mf).1, .ref (ht_zo (be, be) (ht_bit k pl) mf).2])) := by rw [hbit, ← epv]; exact h_Bq
              have hNF := ht_Nd_ext (p := pl) (zo := ht_zo (be, be) (ht_bit k pl) mf) hN5 hmF hBqF hmBq hM hkm hhm hvm h_Bq h_qh
              have hpu := ht_ins_pure (v := v) (B := Bq) (N3 := (va_up N1 be (ht_sf (N1 be) false))) hT hFH hsl hmk hpl hmax hqs epl.symm hmF hBqF hmBq (fun a ha => by
                by_cases e9 : a = be
                · rw [if_pos e9, e9, va_up_self]
                  exact ⟨(hmk.rp be).2.1, (hmk.rp be).2.2.1, (hmk.rp be).2.2.2, rfl⟩
                · rw [if_neg e9, va_up_ne _ _ e9]
                  exact ⟨(hmk.rp a).2.1, (hmk.rp a).2.2.1, (hmk.rp a).2.2.2, rfl⟩) (fun a ha _ => by
                by_cases e9 : a = be
                · rw [e9, va_up_self]
                  exact (hmk.rp be).1
                · rw [va_up_ne _ _ e9]
                  exact (hmk.rp a).1) (fun a zo e9 _ => by cases e9)
              rw [if_pos rfl] at hpu
              have hframe : ht_fr (fun b => b ∈ F ∨ b = x) w u15 := by
                have f1 : ht_fr (fun b => b ∈ F ∨ b = x) w u7 := by
                  rw [hu7]
                  exact (hfr1.mono (fun b h9 => Or.inl h9)).trans (ht_fr.up (Or.inl hbeF))
                have f2 : ht_fr (fun b => b ∈ F ∨ b = x) w u13 := by
                  rw [hu13]
                  exact f1.trans (ht_fr.nw hq_Bq)
                have hBw : Bq ∉ w.1 ∨ Bq ∈ F ∨ Bq = x := by
                  by_cases z9 : Bq ∈ F ∨ Bq = x
                  · exact Or.inr z9
                  · exact Or.inl (fun y9 => hq_Bq (f1 Bq y9 z9).1)
                have f3 : ht_fr (fun b => b ∈ F ∨ b = x) w u14 := by
                  rw [eu14]
                  intro b9 hb9 hn9
                  obtain ⟨y1, y2⟩ := (f2.trans (ht_fr.nw hq_qh)) b9 hb9 hn9
                  refine ⟨y1, ?_⟩
                  have nB : b9 ≠ Bq := fun z9 => hq_Bq ((f1 Bq (by rw [← z9]; exact hb9) (by rw [← z9]; exact hn9)).1)
                  exact (va_up_ne _ _ nB).trans y2
                rw [ph5]
                exact f3.trans (ht_fr.up (Or.inr rfl))
              have hBw : Bq ∉ w.1 := fun y9 => by
                by_cases z9 : Bq ∈ F ∨ Bq = x
                · rcases z9 with z9 | z9
                  · exact hBqF z9
                  · exact n_x_Bq z9.symm
                · exact hq_Bq (by rw [hu7]; exact ((hfr1.mono (fun b h9 => Or.inl h9)) Bq y9 z9).1)
              have hqw : qh ∉ w.1 := fun y9 => by
                by_cases z9 : qh ∈ F ∨ qh = x
                · rcases z9 with z9 | z9
                  · exact hN5.l h_qh z9
                  · exact ht_ne_lo h_qh hX5 z9
                · exact hq_qh (by rw [hu13, hu7]; exact List.mem_append_left _ ((hfr1.mono (fun b h9 => Or.inl h9)) qh y9 z9).1)
              refine ht_vret hx hb hr hlocks HW ⟨_, _, mf :: Bq :: F, some Bq, hX5, hNF, hpu.1, hpu.2, hframe, Or.inr ⟨Bq, qh, rfl, rfl, hBw, hqw, n_Bq_qh, _, by rw [va_up_self]; rfl⟩, fun a e9 v' hv' => ?_⟩ d_X_insert_121
              have n1 : a ≠ Bq := fun z9 => hBqF (by rw [← z9]; exact e9)
              have n2 : a ≠ mf := fun z9 => hmF (by rw [← z9]; exact e9)
              rw [va_up_ne _ _ n1, va_up_ne _ _ n2] at hv'
              by_cases e7 : a = be
              · rw [e7, va_up_self] at hv'
                rw [e7]
                exact (hmk.rp be).1.symm.trans hv'
              · rw [va_up_ne _ _ e7] at hv'
                exact (hmk.rp a).1.symm.trans hv'
      · obtain ⟨zc, habF, habk, hablt, habp, habc⟩ : ∃ zc, ab ∈ F ∧ ht_in N ab k ∧ ht_rl (N ab) < pl ∧ ht_rp (N ab) = .inr zc ∧ ht_ch zc (ht_bit k (ht_rl (N ab))) = be := by
          rcases hsl.2.2 with ⟨q9, -⟩ | ⟨c9, zc, q9, r1, r2, r3, r4, r5⟩
          · cases q9
          · cases q9
            exact ⟨zc, r1, r2, r3, r4, r5⟩
        have hab := hN1.br habF ((hmk.rp ab).1.trans habp)
        rw [(hmk.rp ab).2.2.1] at hab
        have n_be_ab : be ≠ ab := fun z9 => by
          have h9 := hsl.2.1
          rw [z9] at h9
          omega
        refine W.eq (g2 := F0 _ 32 ls [.ref ab]) rfl ?_
        have n_x_ab : x ≠ ab := fun z9 => hxF (by rw [z9]; exact habF)
        have n_kA_ab : kA ≠ ab := fun z9 => hKF (by rw [z9]; exact habF)
        have n_mf_ab : mf ≠ ab := fun z9 => hmF (by rw [z9]; exact habF)
        have n_km_ab : km ≠ ab := fun z9 => hkmF (by rw [z9]; exact habF)
        have n_hm_ab : hm ≠ ab := fun z9 => hhmF (by rw [z9]; exact habF)
        have n_vm_ab : vm ≠ ab := fun z9 => hvmF (by rw [z9]; exact habF)
        refine lv_astore (lv' := [(4, .ref ab), (3, .int pv), (2, .ref b), (0, .ref x), (1, .ref mf)]) hx hb d_X_insert_32 hl (by decide) rfl (fun ls hl => ?_)
        refine lv_aload hx hb d_X_insert_34 (lv_at hl 0 rfl) ?_
        refine lv_ifnonnull (tgt := 46) hx hb d_X_insert_36 (by decide) ?_
        refine lv_aload hx hb d_X_insert_46 (lv_at hl 0 rfl) ?_
        refine lv_aload_n hx hb d_X_insert_48 rfl (lv_at hl 3 rfl) ?_
        refine ht_get (C := R_X) (T := F_X) (N := 9) (v := .ref kA) hx hb htb i_X hown HW hX rfl 0 (by decide) (htb _ wd_40) (fun _ h9 => h9) rfl d_X_insert_49 ?_
        refine lv_aload hx hb d_X_insert_52 (lv_at hl 0 rfl) ?_
        refine ht_get (C := R_B) (T := F_B) (N := 6) (v := .int (nI (ht_rl (N ab)))) hx hb htb i_B hown HW hab rfl 1 (by decide) (htb _ wd_133) (fun x h9 => u_same (htb _ wd_134) x h9) rfl d_X_insert_54 ?_
        refine ht_ci HW (va_runS (own := R_X) (As := [.ref kA, .int (nI (ht_rl (N ab)))]) (rest := [.ref ab]) ⟨hx, hb, hml, hown, htb⟩ (c_X_isOne l g u5 hK (ht_rl (N ab)) (by omega) _ rfl) (va_cwS 2 htb (ht_gs wd_88 wd_89 wd_1 g_X_isOne) rfl rfl rfl (by decide +kernel) ⟨Nat.le_of_ble_eq_true rfl, Nat.le_of_ble_eq_true rfl⟩) (HW.preS _) rfl rfl hl.1 rfl (lv_room (Nat.le_of_ble_eq_true rfl)) d_X_insert_57 ⟨Nat.le_of_ble_eq_true rfl, Nat.le_of_ble_eq_true rfl⟩) (fun q17 u16 H locs pu16 HW => ?_)
        obtain ⟨eq17, eu16⟩ := pu16
        subst eu16
        rw [eq17]
        refine ht_cq HW (va_runV (own := R_X) (C := R_B) (As := [.int (ht_b1 (ht_bit k (ht_rl (N ab))))]) (rest := []) ⟨hx, hb, hml, hown, htb⟩ (c_B_half l g u5 hab (ht_bit k (ht_rl (N ab)))) (cwV 1 htb (ht_gv wd_91 wd_92 wd_93 wd_8 g_B_half) rfl rfl rfl (by decide +kernel) ⟨Nat.le_of_ble_eq_true rfl, Nat.le_of_ble_eq_true rfl⟩) (HW.preV hab rfl _) rfl rfl hl.1 rfl (lv_room (Nat.le_of_ble_eq_true rfl)) d_X_insert_60 ⟨Nat.le_of_ble_eq_true rfl, Nat.le_of_ble_eq_true rfl⟩) (fun q19 u18 H locs ph HW => ?_)
        obtain ⟨eh, eww⟩ := ph
        subst eww
        rw [show ht_ch (zc.1, zc.2) (ht_bit k (ht_rl (N ab))) = be from habc] at eh
        subst eh
        refine W.eq (g2 := F0 _ 63 ls [.ref be]) rfl ?_
        refine lv_astore (lv' := [(5, .ref be), (4, .ref ab), (3, .int pv), (2, .ref b), (0, .ref x), (1, .ref mf)]) hx hb d_X_insert_63 hl (by decide) rfl (fun ls hl => ?_)
        refine lv_aload hx hb d_X_insert_65 (lv_at hl 0 rfl) ?_
        refine lv_iconst (v := 0) hx hb d_X_insert_67 (by decide) ?_
        refine ht_npt (b := false) hx hb htb hown HW hbe (htb _ wd_142) (fun _ h9 => h9) d_X_insert_68 (fun H locs HW => ?_)
        have n_ab_be : ab ≠ be := (Ne.symm n_be_ab)
        obtain ⟨u20, hu20⟩ : ∃ zW : ht_W, zW = ht_up u5 be (ht_nc (ht_sf (N1 be) false) ((A be).1) ((A be).2.1) ((A be).2.2)) := ⟨_, rfl⟩
        have HW : ht_I g s u20 H locs := by rw [hu20]; exact HW
        have hX : ht_at u20 x (.inr (0, [.ref kA, .ref dg, .ref op, .ref t, .int cnt, .ref sb, .ref la, .ref en, .int ei]) : va_E) := by rw [hu20]; exact ht_at_ne hX n_x_be
        have hK : ht_at u20 kA (ht_al g 4 (ht_kf k)) := by rw [hu20]; exact ht_at_ne hK n_kA_be
        have hM : ht_at u20 mf (.inr (2, [.ref km, .int 256, .ref hm, .int 0, .ref vm]) : va_E) := by rw [hu20]; exact ht_at_ne hM n_mf_be
        have hkm : ht_at u20 km (ht_al g 4 (ht_kf k)) := by rw [hu20]; exact ht_at_ne hkm n_km_be
        have hhm : ht_at u20 hm (ht_al g 4 (fun _ => 0)) := by rw [hu20]; exact ht_at_ne hhm n_hm_be
        have hvm : ht_at u20 vm (ht_al g 4 (ht_kf v)) := by rw [hu20]; exact ht_at_ne hvm n_vm_be
        have hbe : ht_at u20 be (ht_nc (ht_sf (N1 be) false) ((A be).1) ((A be).2.1) ((A be).2.2)) := by rw [hu20]; exact ht_at_self hbe
        have hab : ht_at u20 ab (.inr (3, [.ref (A ab).1, .int (nI (ht_rl (N ab))), .ref (A ab).2.1, .int (ht_b1 (ht_rf (N1 ab))), .ref zc.1, .ref zc.2]) : va_E) := by rw [hu20]; exact ht_at_ne hab n_ab_be
        have hN2 : ht_Nd g u20 (va_up N1 be (ht_sf (N1 be) false)) A F := by rw [hu20]; exact hN1.sf hbeF false
        refine lv_aload_n hx hb d_X_insert_71 rfl (lv_at hl 4 rfl) ?_
        refine ht_get (C := R_X) (T := F_X) (N := 9) (v := .ref kA) hx hb htb i_X hown HW hX rfl 0 (by decide) (htb _ wd_40) (fun _ h9 => h9) rfl d_X_insert_72 ?_
        refine lv_iload_n hx hb d_X_insert_75 rfl (lv_at hl 2 rfl) ?_
        refine ht_ci HW (va_runS (own := R_X) (As := [.ref kA, .int pv]) (rest := []) ⟨hx, hb, hml, hown, htb⟩ (c_X_isOne l g u20 hK pl hpl _ epv) (va_cwS 2 htb (ht_gs wd_88 wd_89 wd_1 g_X_isOne) rfl rfl rfl (by decide +kernel) ⟨Nat.le_of_ble_eq_true rfl, Nat.le_of_ble_eq_true rfl⟩) (HW.preS _) rfl rfl hl.1 rfl (lv_room (Nat.le_of_ble_eq_true rfl)) d_X_insert_76 ⟨Nat.le_of_ble_eq_true rfl, Nat.le_of_ble_eq_true rfl⟩) (fun q22 u21 H locs pu21 HW => ?_)
        obtain ⟨eq22, eu21⟩ := pu21
        subst eu21
        rw [eq22]
        cases hbit : ht_bit k pl
        · refine W.eq (g2 := F0 _ 79 ls [.int 0]) rfl ?_
          refine lv_istore (lv' := [(6, .int 0), (5, .ref be), (4, .ref ab), (3, .int pv), (2, .ref b), (0, .ref x), (1, .ref mf)]) hx hb d_X_insert_79 hl (by decide) rfl (fun ls hl => ?_)
          refine lv_aload_n hx hb d_X_insert_81 rfl (lv_at hl 5 rfl) ?_
          refine lv_aload hx hb d_X_insert_82 (lv_at hl 2 rfl) ?_
          refine ht_new (C := R_B) (T := F_B) (N := 6) (ci := 3) (fs := [.null, .int 0, .null, .int 0, .null, .null]) hx hb htb i_B t_B t_B_ok hown (htb _ wd_87) (htb _ wd_160) (htb _ wd_8) HW rfl (fun j hj => by rcases (show j = 0 ∨ j = 1 ∨ j = 2 ∨ j = 3 ∨ j = 4 ∨ j = 5 by omega) with rfl | rfl | rfl | rfl | rfl | rfl <;> rfl) (Nat.le_of_ble_eq_true rfl) (Nat.le_of_ble_eq_true rfl) d_X_insert_84 (fun Bq H hq_Bq HW => ?_)
          obtain ⟨u23, hu23⟩ : ∃ zW : ht_W, zW = ht_nw u20 Bq (.inr (3, [.null, .int 0, .null, .int 0, .null, .null]) : va_E) := ⟨_, rfl⟩
          have HW := HW.to hu23.symm
          have n_x_Bq : x ≠ Bq := fun z9 => hq_Bq (by rw [← z9]; exact hX.1)
          have n_kA_Bq : kA ≠ Bq := fun z9 => hq_Bq (by rw [← z9]; exact hK.1)
          have n_mf_Bq : mf ≠ Bq := fun z9 => hq_Bq (by rw [← z9]; exact hM.1)
          have n_km_Bq : km ≠ Bq := fun z9 => hq_Bq (by rw [← z9]; exact hkm.1)
          have n_hm_Bq : hm ≠ Bq := fun z9 => hq_Bq (by rw [← z9]; exact hhm.1)
          have n_vm_Bq : vm ≠ Bq := fun z9 => hq_Bq (by rw [← z9]; exact hvm.1)
          have n_be_Bq : be ≠ Bq := fun z9 => hq_Bq (by rw [← z9]; exact hbe.1)
          have n_ab_Bq : ab ≠ Bq := fun z9 => hq_Bq (by rw [← z9]; exact hab.1)
          have hX : ht_at u23 x (.inr (0, [.ref kA, .ref dg, .ref op, .ref t, .int cnt, .ref sb, .ref la, .ref en, .int ei]) : va_E) := by rw [hu23]; exact ht_at_old hX hq_Bq
          have hK : ht_at u23 kA (ht_al g 4 (ht_kf k)) := by rw [hu23]; exact ht_at_old hK hq_Bq
          have hM : ht_at u23 mf (.inr (2, [.ref km, .int 256, .ref hm, .int 0, .ref vm]) : va_E) := by rw [hu23]; exact ht_at_old hM hq_Bq
          have hkm : ht_at u23 km (ht_al g 4 (ht_kf k)) := by rw [hu23]; exact ht_at_old hkm hq_Bq
          have hhm : ht_at u23 hm (ht_al g 4 (fun _ => 0)) := by rw [hu23]; exact ht_at_old hhm hq_Bq
          have hvm : ht_at u23 vm (ht_al g 4 (ht_kf v)) := by rw [hu23]; exact ht_at_old hvm hq_Bq
          have hbe : ht_at u23 be (ht_nc (ht_sf (N1 be) false) ((A be).1) ((A be).2.1) ((A be).2.2)) := by rw [hu23]; exact ht_at_old hbe hq_Bq
          have hab : ht_at u23 ab (.inr (3, [.ref (A ab).1, .int (nI (ht_rl (N ab))), .ref (A ab).2.1, .int (ht_b1 (ht_rf (N1 ab))), .ref zc.1, .ref zc.2]) : va_E) := by rw [hu23]; exact ht_at_old hab hq_Bq
          have h_Bq : ht_at u23 Bq (.inr (3, [.null, .int 0, .null, .int 0, .null, .null]) : va_E) := by rw [hu23]; exact ht_at_new
          have hu3N : ht_Nd g u23 (va_up N1 be (ht_sf (N1 be) false)) A F := by rw [hu23]; exact hN2.nw hq_Bq
          refine lv_dup hx hb d_X_insert_87 rfl ?_
          refine lv_aload_n hx hb d_X_insert_88 rfl (lv_at hl 6 rfl) ?_
          refine ht_get (C := R_L) (T := F_L) (N := 5) (v := .ref km) hx hb htb i_L hown HW hM rfl 0 (by decide) (htb _ wd_128) (fun x h9 => u_same (htb _ wd_129) x h9) rfl d_X_insert_89 ?_
          refine lv_iload_n hx hb d_X_insert_92 rfl (lv_at hl 3 rfl) ?_
          refine lv_iload hx hb d_X_insert_93 (lv_at hl 0 rfl) ?_
          refine lv_if_eq (tgt := 103) hx hb d_X_insert_95 (by decide) (fun c95 => ?_) (fun c95 => ?_)
          · refine lv_aload_n hx hb d_X_insert_103 rfl (lv_at hl 6 rfl) ?_
            refine lv_iload hx hb d_X_insert_104 (lv_at hl 0 rfl) ?_
            refine lv_if_eq (tgt := 113) hx hb d_X_insert_106 (by decide) (fun c106 => ?_) (fun c106 => ?_)
            · refine lv_aload hx hb d_X_insert_113 (lv_at hl 1 rfl) ?_
              refine ht_cv HW (va_runI (own := R_X) (As := [.ref km, .int pv, .ref mf, .ref be]) (rest := [.ref Bq, .ref ab, .ref x]) ⟨hx, hb, hml, hown, htb⟩ (c_B_init l g u23 (ka := km) (z := mf) (on := be) (lv := pv) h_Bq) (cwI 4 htb g_B_init rfl rfl rfl (htb _ wd_8) (htb _ wd_161) (htb _ wd_162) rfl (by decide +kernel) ⟨Nat.le_of_ble_eq_true rfl, Nat.le_of_ble_eq_true rfl⟩) (HW.preS _) rfl rfl hl.1 rfl (lv_room (Nat.le_of_ble_eq_true rfl)) d_X_insert_115 ⟨Nat.le_of_ble_eq_true rfl, Nat.le_of_ble_eq_true rfl⟩) (fun u24 H locs pb HW => ?_)
              obtain ⟨qh, hq_qh, eu24⟩ := pb
              have hBq0 := h_Bq
              have hX : ht_at u24 x (.inr (0, [.ref kA, .ref dg, .ref op, .ref t, .int cnt, .ref sb, .ref la, .ref en, .int ei]) : va_E) := by rw [eu24]; exact ht_at_ne (ht_at_old hX hq_qh) n_x_Bq
              have hK : ht_at u24 kA (ht_al g 4 (ht_kf k)) := by rw [eu24]; exact ht_at_ne (ht_at_old hK hq_qh) n_kA_Bq
              have hM : ht_at u24 mf (.inr (2, [.ref km, .int 256, .ref hm, .int 0, .ref vm]) : va_E) := by rw [eu24]; exact ht_at_ne (ht_at_old hM hq_qh) n_mf_Bq
              have hkm : ht_at u24 km (ht_al g 4 (ht_kf k)) := by rw [eu24]; exact ht_at_ne (ht_at_old hkm hq_qh) n_km_Bq
              have hhm : ht_at u24 hm (ht_al g 4 (fun _ => 0)) := by rw [eu24]; exact ht_at_ne (ht_at_old hhm hq_qh) n_hm_Bq
              have hvm : ht_at u24 vm (ht_al g 4 (ht_kf v)) := by rw [eu24]; exact ht_at_ne (ht_at_old hvm hq_qh) n_vm_Bq
              have hbe : ht_at u24 be (ht_nc (ht_sf (N1 be) false) ((A be).1) ((A be).2.1) ((A be).2.2)) := by rw [eu24]; exact ht_at_ne (ht_at_old hbe hq_qh) n_be_Bq
              have hab : ht_at u24 ab (.inr (3, [.ref (A ab).1, .int (nI (ht_rl (N ab))), .ref (A ab).2.1, .int (ht_b1 (ht_rf (N1 ab))), .ref zc.1, .ref zc.2]) : va_E) := by rw [eu24]; exact ht_at_ne (ht_at_old hab hq_qh) n_ab_Bq
              have n_Bq_qh : Bq ≠ qh := fun z9 => hq_qh (by rw [← z9]; exact hBq0.1)
              have h_Bq : ht_at u24 Bq (.inr (3, [.ref km, .int pv, .ref qh, .int 0, .ref mf, .ref be]) : va_E) := by rw [eu24]; exact ht_at_self (ht_at_old h_Bq hq_qh)
              have h_qh : ht_at u24 qh (ht_al g 4 (fun _ => 0)) := by rw [eu24]; exact ht_at_ne ht_at_new n_Bq_qh.symm
              have hBqF : Bq ∉ F := fun z9 => hq_Bq (by exact (hN2 Bq z9).1.1)
              have hN4 : ht_Nd g u24 (va_up N1 be (ht_sf (N1 be) false)) A F := by rw [eu24]; exact ((hu3N).nw hq_qh).upo (ht_at_old hBq0 hq_qh) hBqF
              refine ht_cv HW (va_runV (own := R_X) (C := R_X) (As := [.ref ab, .ref Bq]) (rest := []) ⟨hx, hb, hml, hown, htb⟩ (c_X_hang_S l g u24 (top := some t) hX hK (by omega) hab Bq) (cwV 2 htb (ht_gv wd_178 wd_180 sl_4 wd_1 g_X_hang) rfl rfl rfl (by decide +kernel) ⟨Nat.le_of_ble_eq_true rfl, Nat.le_of_ble_eq_true rfl⟩) (HW.preV hX rfl _) rfl rfl hl.1 rfl (lv_room (Nat.le_of_ble_eq_true rfl)) d_X_insert_118 ⟨Nat.le_of_ble_eq_true rfl, Nat.le_of_ble_eq_true rfl⟩) (fun u25 H locs ph5 HW => ?_)
              have hM : ht_at u25 mf (.inr (2, [.ref km, .int 256, .ref hm, .int 0, .ref vm]) : va_E) := by rw [ph5]; exact ht_at_ne hM n_mf_ab
              have hkm : ht_at u25 km (ht_al g 4 (ht_kf k)) := by rw [ph5]; exact ht_at_ne hkm n_km_ab
              have hhm : ht_at u25 hm (ht_al g 4 (fun _ => 0)) := by rw [ph5]; exact ht_at_ne hhm n_hm_ab
              have hvm : ht_at u25 vm (ht_al g 4 (ht_kf v)) := by rw [ph5]; exact ht_at_ne hvm n_vm_ab
              have h_Bq : ht_at u25 Bq (.inr (3, [.ref km, .int pv, .ref qh, .int 0, .ref mf, .ref be]) : va_E) := by rw [ph5]; exact ht_at_ne h_Bq (Ne.symm n_ab_Bq)
              have h_qh : ht_at u25 qh (ht_al g 4 (fun _ => 0)) := by rw [ph5]; exact ht_at_ne h_qh (ht_ne_lo h_qh hab)
              have hX5 : ht_at u25 x (.inr (0, [.ref kA, .ref dg, .ref op, va_rf (some t), .int cnt, .ref sb, .ref la, .ref en, .int ei])) := by rw [ph5]; exact ht_at_ne hX n_x_ab
              have hN5 : ht_Nd g u25 (va_up (va_up N1 be (ht_sf (N1 be) false)) ab (ht_spy (N1 ab) (.inr (ht_zo (zc.1, zc.2) (ht_bit k (ht_rl (N ab))) Bq)))) A F := by
                have h9 := hN4.sp (zo' := ht_zo (zc.1, zc.2) (ht_bit k (ht_rl (N ab))) Bq) habF (zo := zc) (by rw [va_up_ne _ _ n_be_ab.symm]; exact (hmk.rp ab).1.trans habp)
                rw [va_up_ne _ _ n_be_ab.symm, (hmk.rp ab).2.2.1] at h9
                rw [ph5]
                exact h9
              have hmBq : mf ≠ Bq := n_mf_Bq
              have h_Bq : ht_at u25 Bq (.inr (3, [.ref km, .int (nI pl), .ref qh, .int 0, .ref (ht_zo (be, be) (ht_bit k pl) mf).1, .ref (ht_zo (be, be) (ht_bit k pl) mf).2])) := by rw [hbit, ← epv]; exact h_Bq
              have hNF := ht_Nd_ext (p := pl) (zo := ht_zo (be, be) (ht_bit k pl) mf) hN5 hmF hBqF hmBq hM hkm hhm hvm h_Bq h_qh
              have hpu := ht_ins_pure (v := v) (B := Bq) (N3 := (va_up (va_up N1 be (ht_sf (N1 be) false)) ab (ht_spy (N1 ab) (.inr (ht_zo (zc.1, zc.2) (ht_bit k (ht_rl (N ab))) Bq))))) hT hFH hsl hmk hpl hmax hqs epl.symm hmF hBqF hmBq (fun a ha => by
                by_cases e8 : a = ab
                · rw [e8, va_up_self, if_neg n_be_ab.symm]
                  exact ⟨(hmk.rp ab).2.1, (hmk.rp ab).2.2.1, (hmk.rp ab).2.2.2, rfl⟩
                · rw [va_up_ne _ _ e8]
                  by_cases e9 : a = be
                  · rw [if_pos e9, e9, va_up_self]
                    exact ⟨(hmk.rp be).2.1, (hmk.rp be).2.2.1, (hmk.rp be).2.2.2, rfl⟩
                  · rw [if_neg e9, va_up_ne _ _ e9]
                    exact ⟨(hmk.rp a).2.1, (hmk.rp a).2.2.1, (hmk.rp a).2.2.2, rfl⟩) (fun a ha hna => by
                have e8 : a ≠ ab := fun z9 => hna (by rw [z9])
                rw [va_up_ne _ _ e8]
                by_cases e9 : a = be
                · rw [e9, va_up_self]
                  exact (hmk.rp be).1
                · rw [va_up_ne _ _ e9]
                  exact (hmk.rp a).1) (fun a zo e9 hz9 => by
                cases e9
                rw [va_up_self]
                rw [habp] at hz9
                cases hz9
                rfl)
              rw [if_neg (fun z9 => by cases z9)] at hpu
              have hframe : ht_fr (fun b => b ∈ F ∨ b = x) w u25 := by
                have f1 : ht_fr (fun b => b ∈ F ∨ b = x) w u20 := by
                  rw [hu20]
                  exact (hfr1.mono (fun b h9 => Or.inl h9)).trans (ht_fr.up (Or.inl hbeF))
                have f2 : ht_fr (fun b => b ∈ F ∨ b = x) w u23 := by
                  rw [hu23]
                  exact f1.trans (ht_fr.nw hq_Bq)
                have hBw : Bq ∉ w.1 ∨ Bq ∈ F ∨ Bq = x := by
                  by_cases z9 : Bq ∈ F ∨ Bq = x
                  · exact Or.inr z9
                  · exact Or.inl (fun y9 => hq_Bq (f1 Bq y9 z9).1)
                have f3 : ht_fr (fun b => b ∈ F ∨ b = x) w u24 := by
                  rw [eu24]
                  intro b9 hb9 hn9
                  obtain ⟨y1, y2⟩ := (f2.trans (ht_fr.nw hq_qh)) b9 hb9 hn9
                  refine ⟨y1, ?_⟩
                  have nB : b9 ≠ Bq := fun z9 => hq_Bq ((f1 Bq (by rw [← z9]; exact hb9) (by rw [← z9]; exact hn9)).1)
                  exact (va_up_ne _ _ nB).trans y2
                rw [ph5]
                exact f3.trans (ht_fr.up (Or.inl habF))
              have hBw : Bq ∉ w.1 := fun y9 => by
                by_cases z9 : Bq ∈ F ∨ Bq = x
                · rcases z9 with z9 | z9
                  · exact hBqF z9
                  · exact n_x_Bq z9.symm
                · exact hq_Bq (by rw [hu20]; exact ((hfr1.mono (fun b h9 => Or.inl h9)) Bq y9 z9).1)
              have hqw : qh ∉ w.1 := fun y9 => by
                by_cases z9 : qh ∈ F ∨ qh = x
                · rcases z9 with z9 | z9
                  · exact hN5.l h_qh z9
                  · exact ht_ne_lo h_qh hX5 z9
                · exact hq_qh (by rw [hu23, hu20]; exact List.mem_append_left _ ((hfr1.mono (fun b h9 => Or.inl h9)) qh y9 z9).1)
              refine ht_vret hx hb hr hlocks HW ⟨_, _, mf :: Bq :: F, some t, hX5, hNF, hpu.1, hpu.2, hframe, Or.inr ⟨Bq, qh, rfl, rfl, hBw, hqw, n_Bq_qh, _, by rw [va_up_self]; rfl⟩, fun a e9 v' hv' => ?_⟩ d_X_insert_121
              have n1 : a ≠ Bq := fun z9 => hBqF (by rw [← z9]; exact e9)
              have n2 : a ≠ mf := fun z9 => hmF (by rw [← z9]; exact e9)
              rw [va_up_ne _ _ n1, va_up_ne _ _ n2] at hv'
              by_cases e8 : a = ab
              · rw [e8, va_up_self] at hv'
                cases hv'
              · rw [va_up_ne _ _ e8] at hv'
                by_cases e7 : a = be
                · rw [e7, va_up_self] at hv'
                  rw [e7]
                  exact (hmk.rp be).1.symm.trans hv'
                · rw [va_up_ne _ _ e7] at hv'
                  exact (hmk.rp a).1.symm.trans hv'
            · exact absurd rfl c106
          · exact absurd rfl c95
        · refine W.eq (g2 := F0 _ 79 ls [.int 1]) rfl ?_
          refine lv_istore (lv' := [(6, .int 1), (5, .ref be), (4, .ref ab), (3, .int pv), (2, .ref b), (0, .ref x), (1, .ref mf)]) hx hb d_X_insert_79 hl (by decide) rfl (fun ls hl => ?_)
          refine lv_aload_n hx hb d_X_insert_81 rfl (lv_at hl 5 rfl) ?_
          refine lv_aload hx hb d_X_insert_82 (lv_at hl 2 rfl) ?_
          refine ht_new (C := R_B) (T := F_B) (N := 6) (ci := 3) (fs := [.null, .int 0, .null, .int 0, .null, .null]) hx hb htb i_B t_B t_B_ok hown (htb _ wd_87) (htb _ wd_160) (htb _ wd_8) HW rfl (fun j hj => by rcases (show j = 0 ∨ j = 1 ∨ j = 2 ∨ j = 3 ∨ j = 4 ∨ j = 5 by omega) with rfl | rfl | rfl | rfl | rfl | rfl <;> rfl) (Nat.le_of_ble_eq_true rfl) (Nat.le_of_ble_eq_true rfl) d_X_insert_84 (fun Bq H hq_Bq HW => ?_)
          obtain ⟨u26, hu26⟩ : ∃ zW : ht_W, zW = ht_nw u20 Bq (.inr (3, [.null, .int 0, .null, .int 0, .null, .null]) : va_E) := ⟨_, rfl⟩
          have HW := HW.to hu26.symm
          have n_x_Bq : x ≠ Bq := fun z9 => hq_Bq (by rw [← z9]; exact hX.1)
          have n_kA_Bq : kA ≠ Bq := fun z9 => hq_Bq (by rw [← z9]; exact hK.1)
          have n_mf_Bq : mf ≠ Bq := fun z9 => hq_Bq (by rw [← z9]; exact hM.1)
          have n_km_Bq : km ≠ Bq := fun z9 => hq_Bq (by rw [← z9]; exact hkm.1)
          have n_hm_Bq : hm ≠ Bq := fun z9 => hq_Bq (by rw [← z9]; exact hhm.1)
          have n_vm_Bq : vm ≠ Bq := fun z9 => hq_Bq (by rw [← z9]; exact hvm.1)
          have n_be_Bq : be ≠ Bq := fun z9 => hq_Bq (by rw [← z9]; exact hbe.1)
          have n_ab_Bq : ab ≠ Bq := fun z9 => hq_Bq (by rw [← z9]; exact hab.1)
          have hX : ht_at u26 x (.inr (0, [.ref kA, .ref dg, .ref op, .ref t, .int cnt, .ref sb, .ref la, .ref en, .int ei]) : va_E) := by rw [hu26]; exact ht_at_old hX hq_Bq
          have hK : ht_at u26 kA (ht_al g 4 (ht_kf k)) := by rw [hu26]; exact ht_at_old hK hq_Bq
          have hM : ht_at u26 mf (.inr (2, [.ref km, .int 256, .ref hm, .int 0, .ref vm]) : va_E) := by rw [hu26]; exact ht_at_old hM hq_Bq
          have hkm : ht_at u26 km (ht_al g 4 (ht_kf k)) := by rw [hu26]; exact ht_at_old hkm hq_Bq
          have hhm : ht_at u26 hm (ht_al g 4 (fun _ => 0)) := by rw [hu26]; exact ht_at_old hhm hq_Bq
          have hvm : ht_at u26 vm (ht_al g 4 (ht_kf v)) := by rw [hu26]; exact ht_at_old hvm hq_Bq
          have hbe : ht_at u26 be (ht_nc (ht_sf (N1 be) false) ((A be).1) ((A be).2.1) ((A be).2.2)) := by rw [hu26]; exact ht_at_old hbe hq_Bq
          have hab : ht_at u26 ab (.inr (3, [.ref (A ab).1, .int (nI (ht_rl (N ab))), .ref (A ab).2.1, .int (ht_b1 (ht_rf (N1 ab))), .ref zc.1, .ref zc.2]) : va_E) := by rw [hu26]; exact ht_at_old hab hq_Bq
          have h_Bq : ht_at u26 Bq (.inr (3, [.null, .int 0, .null, .int 0, .null, .null]) : va_E) := by rw [hu26]; exact ht_at_new
          have hu3N : ht_Nd g u26 (va_up N1 be (ht_sf (N1 be) false)) A F := by rw [hu26]; exact hN2.nw hq_Bq
          refine lv_dup hx hb d_X_insert_87 rfl ?_
          refine lv_aload_n hx hb d_X_insert_88 rfl (lv_at hl 6 rfl) ?_
          refine ht_get (C := R_L) (T := F_L) (N := 5) (v := .ref km) hx hb htb i_L hown HW hM rfl 0 (by decide) (htb _ wd_128) (fun x h9 => u_same (htb _ wd_129) x h9) rfl d_X_insert_89 ?_
          refine lv_iload_n hx hb d_X_insert_92 rfl (lv_at hl 3 rfl) ?_
          refine lv_iload hx hb d_X_insert_93 (lv_at hl 0 rfl) ?_
          refine lv_if_eq (tgt := 103) hx hb d_X_insert_95 (by decide) (fun c95 => ?_) (fun c95 => ?_)
          · exact absurd c95 (by decide)
          · refine lv_aload hx hb d_X_insert_98 (lv_at hl 1 rfl) ?_
            refine lv_goto (tgt := 104) hx hb d_X_insert_100 (by decide) ?_
            refine lv_iload hx hb d_X_insert_104 (lv_at hl 0 rfl) ?_
            refine lv_if_eq (tgt := 113) hx hb d_X_insert_106 (by decide) (fun c106 => ?_) (fun c106 => ?_)
            · exact absurd c106 (by decide)
            · refine lv_aload_n hx hb d_X_insert_109 rfl (lv_at hl 6 rfl) ?_
              refine lv_goto (tgt := 115) hx hb d_X_insert_110 (by decide) ?_
              refine ht_cv HW (va_runI (own := R_X) (As := [.ref km, .int pv, .ref be, .ref mf]) (rest := [.ref Bq, .ref ab, .ref x]) ⟨hx, hb, hml, hown, htb⟩ (c_B_init l g u26 (ka := km) (z := be) (on := mf) (lv := pv) h_Bq) (cwI 4 htb g_B_init rfl rfl rfl (htb _ wd_8) (htb _ wd_161) (htb _ wd_162) rfl (by decide +kernel) ⟨Nat.le_of_ble_eq_true rfl, Nat.le_of_ble_eq_true rfl⟩) (HW.preS _) rfl rfl hl.1 rfl (lv_room (Nat.le_of_ble_eq_true rfl)) d_X_insert_115 ⟨Nat.le_of_ble_eq_true rfl, Nat.le_of_ble_eq_true rfl⟩) (fun u27 H locs pb HW => ?_)
              obtain ⟨qh, hq_qh, eu27⟩ := pb
              have hBq0 := h_Bq
              have hX : ht_at u27 x (.inr (0, [.ref kA, .ref dg, .ref op, .ref t, .int cnt, .ref sb, .ref la, .ref en, .int ei]) : va_E) := by rw [eu27]; exact ht_at_ne (ht_at_old hX hq_qh) n_x_Bq
              have hK : ht_at u27 kA (ht_al g 4 (ht_kf k)) := by rw [eu27]; exact ht_at_ne (ht_at_old hK hq_qh) n_kA_Bq
              have hM : ht_at u27 mf (.inr (2, [.ref km, .int 256, .ref hm, .int 0, .ref vm]) : va_E) := by rw [eu27]; exact ht_at_ne (ht_at_old hM hq_qh) n_mf_Bq
              have hkm : ht_at u27 km (ht_al g 4 (ht_kf k)) := by rw [eu27]; exact ht_at_ne (ht_at_old hkm hq_qh) n_km_Bq
              have hhm : ht_at u27 hm (ht_al g 4 (fun _ => 0)) := by rw [eu27]; exact ht_at_ne (ht_at_old hhm hq_qh) n_hm_Bq
              have hvm : ht_at u27 vm (ht_al g 4 (ht_kf v)) := by rw [eu27]; exact ht_at_ne (ht_at_old hvm hq_qh) n_vm_Bq
              have hbe : ht_at u27 be (ht_nc (ht_sf (N1 be) false) ((A be).1) ((A be).2.1) ((A be).2.2)) := by rw [eu27]; exact ht_at_ne (ht_at_old hbe hq_qh) n_be_Bq
              have hab : ht_at u27 ab (.inr (3, [.ref (A ab).1, .int (nI (ht_rl (N ab))), .ref (A ab).2.1, .int (ht_b1 (ht_rf (N1 ab))), .ref zc.1, .ref zc.2]) : va_E) := by rw [eu27]; exact ht_at_ne (ht_at_old hab hq_qh) n_ab_Bq
              have n_Bq_qh : Bq ≠ qh := fun z9 => hq_qh (by rw [← z9]; exact hBq0.1)
              have h_Bq : ht_at u27 Bq (.inr (3, [.ref km, .int pv, .ref qh, .int 0, .ref be, .ref mf]) : va_E) := by rw [eu27]; exact ht_at_self (ht_at_old h_Bq hq_qh)
              have h_qh : ht_at u27 qh (ht_al g 4 (fun _ => 0)) := by rw [eu27]; exact ht_at_ne ht_at_new n_Bq_qh.symm
              have hBqF : Bq ∉ F := fun z9 => hq_Bq (by exact (hN2 Bq z9).1.1)
              have hN4 : ht_Nd g u27 (va_up N1 be (ht_sf (N1 be) false)) A F := by rw [eu27]; exact ((hu3N).nw hq_qh).upo (ht_at_old hBq0 hq_qh) hBqF
              refine ht_cv HW (va_runV (own := R_X) (C := R_X) (As := [.ref ab, .ref Bq]) (rest := []) ⟨hx, hb, hml, hown, htb⟩ (c_X_hang_S l g u27 (top := some t) hX hK (by omega) hab Bq) (cwV 2 htb (ht_gv wd_178 wd_180 sl_4 wd_1 g_X_hang) rfl rfl rfl (by decide +kernel) ⟨Nat.le_of_ble_eq_true rfl, Nat.le_of_ble_eq_true rfl⟩) (HW.preV hX rfl _) rfl rfl hl.1 rfl (lv_room (Nat.le_of_ble_eq_true rfl)) d_X_insert_118 ⟨Nat.le_of_ble_eq_true rfl, Nat.le_of_ble_eq_true rfl⟩) (fun u28 H locs ph5 HW => ?_)
              have hM : ht_at u28 mf (.inr (2, [.ref km, .int 256, .ref hm, .int 0, .ref vm]) : va_E) := by rw [ph5]; exact ht_at_ne hM n_mf_ab
              have hkm : ht_at u28 km (ht_al g 4 (ht_kf k)) := by rw [ph5]; exact ht_at_ne hkm n_km_ab
              have hhm : ht_at u28 hm (ht_al g 4 (fun _ => 0)) := by rw [ph5]; exact ht_at_ne hhm n_hm_ab
              have hvm : ht_at u28 vm (ht_al g 4 (ht_kf v)) := by rw [ph5]; exact ht_at_ne hvm n_vm_ab
              have h_Bq : ht_at u28 Bq (.inr (3, [.ref km, .int pv, .ref qh, .int 0, .ref be, .ref mf]) : va_E) := by rw [ph5]; exact ht_at_ne h_Bq (Ne.symm n_ab_Bq)
              have h_qh : ht_at u28 qh (ht_al g 4 (fun _ => 0)) := by rw [ph5]; exact ht_at_ne h_qh (ht_ne_lo h_qh hab)
              have hX5 : ht_at u28 x (.inr (0, [.ref kA, .ref dg, .ref op, va_rf (some t), .int cnt, .ref sb, .ref la, .ref en, .int ei])) := by rw [ph5]; exact ht_at_ne hX n_x_ab
              have hN5 : ht_Nd g u28 (va_up (va_up N1 be (ht_sf (N1 be) false)) ab (ht_spy (N1 ab) (.inr (ht_zo (zc.1, zc.2) (ht_bit k (ht_rl (N ab))) Bq)))) A F := by
                have h9 := hN4.sp (zo' := ht_zo (zc.1, zc.2) (ht_bit k (ht_rl (N ab))) Bq) habF (zo := zc) (by rw [va_up_ne _ _ n_be_ab.symm]; exact (hmk.rp ab).1.trans habp)
                rw [va_up_ne _ _ n_be_ab.symm, (hmk.rp ab).2.2.1] at h9
                rw [ph5]
                exact h9
              have hmBq : mf ≠ Bq := n_mf_Bq
              have h_Bq : ht_at u28 Bq (.inr (3, [.ref km, .int (nI pl), .ref qh, .int 0, .ref (ht_zo (be, be) (ht_bit k pl) mf).1, .ref (ht_zo (be, be) (ht_bit k pl) mf).2])) := by rw [hbit, ← epv]; exact h_Bq
              have hNF := ht_Nd_ext (p := pl) (zo := ht_zo (be, be) (ht_bit k pl) mf) hN5 hmF hBqF hmBq hM hkm hhm hvm h_Bq h_qh
              have hpu := ht_ins_pure (v := v) (B := Bq) (N3 := (va_up (va_up N1 be (ht_sf (N1 be) false)) ab (ht_spy (N1 ab) (.inr (ht_zo (zc.1, zc.2) (ht_bit k (ht_rl (N ab))) Bq))))) hT hFH hsl hmk hpl hmax hqs epl.symm hmF hBqF hmBq (fun a ha => by
                by_cases e8 : a = ab
                · rw [e8, va_up_self, if_neg n_be_ab.symm]
                  exact ⟨(hmk.rp ab).2.1, (hmk.rp ab).2.2.1, (hmk.rp ab).2.2.2, rfl⟩
                · rw [va_up_ne _ _ e8]
                  by_cases e9 : a = be
                  · rw [if_pos e9, e9, va_up_self]
                    exact ⟨(hmk.rp be).2.1, (hmk.rp be).2.2.1, (hmk.rp be).2.2.2, rfl⟩
                  · rw [if_neg e9, va_up_ne _ _ e9]
                    exact ⟨(hmk.rp a).2.1, (hmk.rp a).2.2.1, (hmk.rp a).2.2.2, rfl⟩) (fun a ha hna => by
                have e8 : a ≠ ab := fun z9 => hna (by rw [z9])
                rw [va_up_ne _ _ e8]
                by_cases e9 : a = be
                · rw [e9, va_up_self]
                  exact (hmk.rp be).1
                · rw [va_up_ne _ _ e9]
                  exact (hmk.rp a).1) (fun a zo e9 hz9 => by
                cases e9
                rw [va_up_self]
                rw [habp] at hz9
                cases hz9
                rfl)
              rw [if_neg (fun z9 => by cases z9)] at hpu
              have hframe : ht_fr (fun b => b ∈ F ∨ b = x) w u28 := by
                have f1 : ht_fr (fun b => b ∈ F ∨ b = x) w u20 := by
                  rw [hu20]
                  exact (hfr1.mono (fun b h9 => Or.inl h9)).trans (ht_fr.up (Or.inl hbeF))
                have f2 : ht_fr (fun b => b ∈ F ∨ b = x) w u26 := by
                  rw [hu26]
                  exact f1.trans (ht_fr.nw hq_Bq)
                have hBw : Bq ∉ w.1 ∨ Bq ∈ F ∨ Bq = x := by
                  by_cases z9 : Bq ∈ F ∨ Bq = x
                  · exact Or.inr z9
                  · exact Or.inl (fun y9 => hq_Bq (f1 Bq y9 z9).1)
                have f3 : ht_fr (fun b => b ∈ F ∨ b = x) w u27 := by
                  rw [eu27]
                  intro b9 hb9 hn9
                  obtain ⟨y1, y2⟩ := (f2.trans (ht_fr.nw hq_qh)) b9 hb9 hn9
                  refine ⟨y1, ?_⟩
                  have nB : b9 ≠ Bq := fun z9 => hq_Bq ((f1 Bq (by rw [← z9]; exact hb9) (by rw [← z9]; exact hn9)).1)
                  exact (va_up_ne _ _ nB).trans y2
                rw [ph5]
                exact f3.trans (ht_fr.up (Or.inl habF))
              have hBw : Bq ∉ w.1 := fun y9 => by
                by_cases z9 : Bq ∈ F ∨ Bq = x
                · rcases z9 with z9 | z9
                  · exact hBqF z9
                  · exact n_x_Bq z9.symm
                · exact hq_Bq (by rw [hu20]; exact ((hfr1.mono (fun b h9 => Or.inl h9)) Bq y9 z9).1)
              have hqw : qh ∉ w.1 := fun y9 => by
                by_cases z9 : qh ∈ F ∨ qh = x
                · rcases z9 with z9 | z9
                  · exact hN5.l h_qh z9
                  · exact ht_ne_lo h_qh hX5 z9
                · exact hq_qh (by rw [hu26, hu20]; exact List.mem_append_left _ ((hfr1.mono (fun b h9 => Or.inl h9)) qh y9 z9).1)
              refine ht_vret hx hb hr hlocks HW ⟨_, _, mf :: Bq :: F, some t, hX5, hNF, hpu.1, hpu.2, hframe, Or.inr ⟨Bq, qh, rfl, rfl, hBw, hqw, n_Bq_qh, _, by rw [va_up_self]; rfl⟩, fun a e9 v' hv' => ?_⟩ d_X_insert_121
              have n1 : a ≠ Bq := fun z9 => hBqF (by rw [← z9]; exact e9)
              have n2 : a ≠ mf := fun z9 => hmF (by rw [← z9]; exact e9)
              rw [va_up_ne _ _ n1, va_up_ne _ _ n2] at hv'
              by_cases e8 : a = ab
              · rw [e8, va_up_self] at hv'
                cases hv'
              · rw [va_up_ne _ _ e8] at hv'
                by_cases e7 : a = be
                · rw [e7, va_up_self] at hv'
                  rw [e7]
                  exact (hmk.rp be).1.symm.trans hv'
                · rw [va_up_ne _ _ e7] at hv'
                  exact (hmk.rp a).1.symm.trans hv'
end
section
/-! An array's clone; the class's whole state. -/
section HTCL
variable {p : Program} {l : Launch} {e : Env} {R : Room} {s : State} {m : MethodId} {args : Array Value} {below : List Frame} {meth : Method} {c : Code} {H : Heap} {locs : List Loc} {cells slots : Nat} {Q : State → Prop}
variable {cc : ByteArray} {pc : Nat} {ls : Array Slot} {rest : List Value} {g : ht_G} {w : ht_W} {a : Nat}
theorem ht_clone (hx : p.tables.exec = Jvm.exec) (hb : c.code = cc) (hml : c.maxLocals = ls.size) {own : String} {index : Nat} (hown : s.vm.findClass own = some m.cls)
    (hlink : (Cond.methodLink own index ⟨"[J", "clone", "()Ljava/lang/Object;"⟩).before args s = true) (hsame : (Cond.sameMethod "[J" "java/lang/Object" "clone" "()Ljava/lang/Object;").before args s = true)
    (hnat : (Cond.native ⟨"java/lang/Object", "clone", "()Ljava/lang/Object;"⟩).before args s = true) (hinst : (Cond.instanceMethod ⟨"java/lang/Object", "clone", "()Ljava/lang/Object;"⟩).before args s = true)
    (hsel : (Cond.selects "[J" ⟨"[J", "clone", "()Ljava/lang/Object;"⟩ ⟨"java/lang/Object", "clone", "()Ljava/lang/Object;"⟩).before args s = true)
    (HW : ht_I g s w H locs) {n : Nat} {f : Nat → Int64} (ha : ht_at w a (ht_al g n f)) (hframes : 1 ≤ R.frames) (hlocals : (rest.map fun v => v.category).sum + 14 ≤ R.locals) (hcells : cells + 1 ≤ R.cells) (hslots : slots + n ≤ R.slots) (hdg : decode cc pc = .ok (.invokevirtual index, 3))
    (kk : ∀ (q : Nat) (H1 : Heap), q ∉ w.1 → ht_I g s (ht_nw w q (ht_al g n f)) H1 locs → W p l e R s m args below meth c H1 locs (cells + 1) (slots + n) Q (F0 m (pc + 3) ls (.ref q :: rest))) : W p l e R s m args below meth c H locs cells slots Q (F0 m pc ls (.ref a :: rest)) := by
  obtain ⟨q0, hq⟩ := ht_ix ha
  refine va_clone hx hb hml hown hlink hsame hnat hinst hsel HW.2.2.1.2.2.2.2.2.2.1 HW.2.1 HW.2.2.2.1 HW.2.2.2.2.1 HW.2.2.2.2.2 HW.hA q0 1 hq rfl (va_nm_long (HW.2.1.2 1 _ rfl).2) (fun i v hv => ?_) hframes hlocals hcells hslots hdg (fun q H1 _ hP1 hD1 hS1 => ?_)
  · exact va_fit (fun i hi => rfl) i v hv
  · obtain ⟨hq, he⟩ := ht_push hD1
    rw [he] at hP1 hD1
    exact kk q H1 hq ⟨HW.1, HW.2.1, HW.2.2.1, hP1, hD1, hS1⟩
theorem ht_castJ (hx : p.tables.exec = Jvm.exec) (hb : c.code = cc) {own : String} {index : Nat} (hown : s.vm.findClass own = some m.cls) (hlink : (Cond.classLink own index "[J").before args s = true) (HW : ht_I g s w H locs) {n : Nat} {f : Nat → Int64} (ha : ht_at w a (ht_al g n f)) (hdg : decode cc pc = .ok (.checkcast index, 3))
    (kk : W p l e R s m args below meth c H locs cells slots Q (F0 m (pc + 3) ls (.ref a :: rest))) : W p l e R s m args below meth c H locs cells slots Q (F0 m pc ls (.ref a :: rest)) := by
  obtain ⟨q0, hq⟩ := ht_ix ha
  exact va_castA hx hb hown hlink HW.2.2.2.1 q0 hq (va_nm_long (HW.2.1.2 1 _ rfl).2) hdg kk
end HTCL
theorem ht_Nd.nf {g : ht_G} {w : ht_W} {N : ht_N} {A : ht_AA} {F : List Nat} (h : ht_Nd g w N A F) {x : Nat} {e : va_E} (hx : ht_at w x e) (hne : ∀ r ka ha va, e ≠ ht_nc r ka ha va) : x ∉ F := fun q => ht_ne hx (h x q).1 (hne _ _ _ _) rfl
theorem ht_ne_n1 {fs : List Value} (r : ht_R) (ka ha va : Nat) : (.inr (1, fs) : va_E) ≠ ht_nc r ka ha va := by
  unfold ht_nc
  cases ht_rp r <;> exact fun z => by cases z
theorem ht_ne_na {x : ClassId × vp_A} (r : ht_R) (ka ha va : Nat) : (.inl x : va_E) ≠ ht_nc r ka ha va := by
  unfold ht_nc
  cases ht_rp r <;> exact fun z => by cases z
def ht_xo (X : Nat → Nat) (top : Option Nat) (cnt ei : Int32) : va_E := .inr (0, [.ref (X 1), .ref (X 2), .ref (X 5), va_rf top, .int cnt, .ref (X 6), .ref (X 7), .ref (X 8), .int ei])
/-- whose a cell is: the class's have a tag that isn't 0 -/
def ht_tgs (tg : Nat → Nat × Nat) (X : Nat → Nat) (N : ht_N) (A : ht_AA) (F : List Nat) : Prop := (∀ i, i < 9 → tg (X i) = (1, i)) ∧ ∀ a ∈ F, tg a = (2, 0) ∧ tg (A a).1 = (3, 0) ∧ tg (A a).2.1 = (4, a) ∧ ∀ v, ht_rp (N a) = .inl v → tg (A a).2.2 = (5, a)
def ht_Rp (dgf : Int32 → ht_K → ht_K → ht_K) (g : ht_G) (w : ht_W) (X : Nat → Nat) (tg : Nat → Nat × Nat) (k : ht_K) (N : ht_N) (A : ht_AA) (F : List Nat) (top : Option Nat) (L : ht_L) (dt : ht_D) (opf : Nat → Option Nat) (sbf lsf enf : Nat → Int64) (ei : Int32) : Prop :=
  ht_at w (X 0) (ht_xo X top (nI L.length) ei) ∧ ht_at w (X 1) (ht_al g 4 (ht_kf k)) ∧ ht_Dg g w (X 2) (X 3) (X 4) dt ∧ ht_at w (X 5) (ht_aq g 257 opf) ∧ ht_at w (X 6) (ht_al g 1024 sbf) ∧ ht_at w (X 7) (ht_al g 4 lsf) ∧ ht_at w (X 8) (ht_al g 8 enf) ∧ ht_Nd g w N A F ∧ ht_T N F top L ∧ ht_FH dgf N F top L ∧ ht_tgs tg X N A F ∧ F.length ≤ 2 * L.length
theorem ht_Rp.out {dgf : Int32 → ht_K → ht_K → ht_K} {g : ht_G} {w : ht_W} {X : Nat → Nat} {tg : Nat → Nat × Nat} {k : ht_K} {N : ht_N} {A : ht_AA} {F : List Nat} {top : Option Nat} {L : ht_L} {dt : ht_D} {opf : Nat → Option Nat} {sbf lsf enf : Nat → Int64} {ei : Int32} (h : ht_Rp dgf g w X tg k N A F top L dt opf sbf lsf enf ei) : ∀ i, i < 9 → X i ∉ F := by
  intro i hi q
  obtain ⟨-, -, -, -, -, -, -, -, -, -, h9, -⟩ := h
  have h1 := h9.1 i hi
  have h2 := (h9.2 _ q).1
  rw [h1] at h2
  cases h2
theorem ht_Rp.re {dgf : Int32 → ht_K → ht_K → ht_K} {g : ht_G} {w u : ht_W} {X : Nat → Nat} {tg tg' : Nat → Nat × Nat} {k : ht_K} {N N' : ht_N} {A A' : ht_AA} {F F' : List Nat} {top top' : Option Nat} {L L' : ht_L} {dt : ht_D} {opf : Nat → Option Nat} {sbf lsf enf : Nat → Int64} {ei : Int32} (h : ht_Rp dgf g w X tg k N A F top L dt opf sbf lsf enf ei) {S : Nat → Prop} (hf : ht_fr S w u) (hS : ∀ i, 1 ≤ i → i < 9 → ¬ S (X i)) (hx : ht_at u (X 0) (ht_xo X top' (nI L'.length) ei)) (hN : ht_Nd g u N' A' F') (hT : ht_T N' F' top' L') (hF : ht_FH dgf N' F' top' L') (ht : ht_tgs tg' X N' A' F') (hl : F'.length ≤ 2 * L'.length) : ht_Rp dgf g u X tg' k N' A' F' top' L' dt opf sbf lsf enf ei := by
  obtain ⟨-, h2, h3, h4, h5, h6, h7, -⟩ := h
  exact ⟨hx, hf.at h2 (hS 1 (by decide) (by decide)), ⟨hf.at h3.1 (hS 2 (by decide) (by decide)), hf.at h3.2.1 (hS 3 (by decide) (by decide)), hf.at h3.2.2 (hS 4 (by decide) (by decide))⟩, hf.at h4 (hS 5 (by decide) (by decide)), hf.at h5 (hS 6 (by decide) (by decide)), hf.at h6 (hS 7 (by decide) (by decide)), hf.at h7 (hS 8 (by decide) (by decide)), hN, hT, hF, ht, hl⟩
theorem ht_tne {tg : Nat → Nat × Nat} {a b : Nat} {x y : Nat × Nat} (ha : tg a = x) (hb : tg b = y) (h : x ≠ y) : a ≠ b := fun z => h (by rw [← ha, ← hb, z])
/-- a leaf's value row changes -/
theorem ht_Nd.val {g : ht_G} {w : ht_W} {N : ht_N} {A : ht_AA} {F : List Nat} {tg : Nat → Nat × Nat} {X : Nat → Nat} (h : ht_Nd g w N A F) (ht : ht_tgs tg X N A F) {b : Nat} (hb : b ∈ F) {v0 v : ht_K} (hp : ht_rp (N b) = .inl v0) : ht_Nd g (ht_up w (A b).2.2 (ht_al g 4 (ht_kf v))) (va_up N b (ht_spy (N b) (.inl v))) A F := by
  intro a ha
  obtain ⟨h1, h2, h3, h4⟩ := h a ha
  have hvb := (h b hb).2.2.2 v0 hp
  have tb := (ht.2 b hb).2.2.2 v0 hp
  have n0 : a ≠ (A b).2.2 := fun z => h.l hvb (by rw [← z]; exact ha)
  have n1 : (A a).1 ≠ (A b).2.2 := ht_tne (ht.2 a ha).2.1 tb (fun z => by cases z)
  have n2 : (A a).2.1 ≠ (A b).2.2 := ht_tne (ht.2 a ha).2.2.1 tb (fun z => by cases z)
  by_cases e : a = b
  · subst e
    rw [va_up_self]
    refine ⟨?_, ht_at_ne h2 n1, ht_at_ne h3 n2, fun v' hv' => ?_⟩
    · have e2 : ht_nc (ht_spy (N a) (.inl v)) (A a).1 (A a).2.1 (A a).2.2 = ht_nc (N a) (A a).1 (A a).2.1 (A a).2.2 := by
        rw [ht_nc_l hp, ht_nc_l (r := ht_spy (N a) (.inl v)) rfl]
        rfl
      rw [e2]
      exact ht_at_ne h1 n0
    · cases hv'
      exact ht_at_self hvb
  · rw [va_up_ne _ _ e]
    refine ⟨ht_at_ne h1 n0, ht_at_ne h2 n1, ht_at_ne h3 n2, fun v' hv' => ht_at_ne (h4 v' hv') ?_⟩
    exact ht_tne ((ht.2 a ha).2.2.2 v' hv') tb (fun z => e (by injection z))
end
section
theorem ht_fr.upn {S : Nat → Prop} {w u : ht_W} {a : Nat} {e : va_E} (h : ht_fr S w u) (hn : a ∉ w.1) : ht_fr S w (ht_up u a e) := fun b hb hs => ⟨(h b hb hs).1, (va_up_ne _ _ (fun z => hn (by rw [← z]; exact hb))).trans (h b hb hs).2⟩
theorem ht_fr.nwn {S : Nat → Prop} {w u : ht_W} {a : Nat} {e : va_E} (h : ht_fr S w u) (hn : a ∉ w.1) : ht_fr S w (ht_nw u a e) := fun b hb hs => ⟨List.mem_append_left _ (h b hb hs).1, (va_up_ne _ _ (fun z => hn (by rw [← z]; exact hb))).trans (h b hb hs).2⟩
theorem ht_fr.out {S : Nat → Prop} {w u : ht_W} {q : Nat} (h : ht_fr S w u) (hS : ¬ S q) (hq : q ∉ u.1) : q ∉ w.1 := fun z => hq (h q z hS).1
theorem ht_at_old2 {w : ht_W} {q q' b : Nat} {e e' eb : va_E} (h : ht_at w b eb) (h1 : q ∉ w.1) (h2 : q' ∉ w.1) (hne : q ≠ q') : ht_at (ht_nw (ht_nw w q e) q' e') b eb := by
  refine ht_at_old (ht_at_old h h1) (fun z => ?_)
  rcases List.mem_append.mp z with y | y
  · exact h2 y
  · exact hne (List.mem_singleton.mp y).symm
theorem ht_Nd.in {g : ht_G} {w : ht_W} {N : ht_N} {A : ht_AA} {F : List Nat} (h : ht_Nd g w N A F) {a : Nat} (ha : a ∈ F) : a ∈ w.1 := (h a ha).1.1
theorem ht_tgs.congr {tg : Nat → Nat × Nat} {X : Nat → Nat} {N N' : ht_N} {A : ht_AA} {F : List Nat} (h : ht_tgs tg X N A F) (hp : ∀ a ∈ F, ∀ v, ht_rp (N' a) = .inl v → ∃ v', ht_rp (N a) = .inl v') : ht_tgs tg X N' A F := ⟨h.1, fun a ha => ⟨(h.2 a ha).1, (h.2 a ha).2.1, (h.2 a ha).2.2.1, fun v hv => (hp a ha v hv).elim (fun v' hv' => (h.2 a ha).2.2.2 v' hv')⟩⟩
/-- a value is set: the pure side -/
theorem ht_set_pure {dgf : Int32 → ht_K → ht_K → ht_K} {N N1 : ht_N} {F : List Nat} {top : Option Nat} {L : ht_L} {k v0 v : ht_K} {b : Nat} (hT : ht_T N F top L) (hF : ht_FH dgf N F top L) (hmk : ht_mkd N F k 256 N1) (hb : b ∈ F) (hp : ht_rp (N b) = .inl v0) (hk : ht_rk (N b) = k) :
    ht_T (va_up N1 b (ht_spy (ht_sf (N1 b) false) (.inl v))) F top (ht_sv L k v) ∧ ht_FH dgf (va_up N1 b (ht_spy (ht_sf (N1 b) false) (.inl v))) F top (ht_sv L k v) := by
  have hkl : ∀ a ∈ F, ht_rk ((va_up N1 b (ht_spy (ht_sf (N1 b) false) (.inl v))) a) = ht_rk (N a) ∧ ht_rl ((va_up N1 b (ht_spy (ht_sf (N1 b) false) (.inl v))) a) = ht_rl (N a) := by
    intro a ha
    by_cases e : a = b
    · rw [e, va_up_self]
      exact ⟨(hmk.rp b).2.1, (hmk.rp b).2.2.1⟩
    · rw [va_up_ne _ _ e]
      exact ⟨(hmk.rp a).2.1, (hmk.rp a).2.2.1⟩
  have hpn : ∀ a ∈ F, a ≠ b → ht_rp ((va_up N1 b (ht_spy (ht_sf (N1 b) false) (.inl v))) a) = ht_rp (N a) := by
    intro a ha e
    rw [va_up_ne _ _ e]
    exact (hmk.rp a).1
  have hpm : ht_rp ((va_up N1 b (ht_spy (ht_sf (N1 b) false) (.inl v))) b) = .inl v := by
    rw [va_up_self]
    rfl
  have hib : ht_in N b k := (hT.leaf_in hb hp k).mpr hk
  refine ⟨hT.setv hb hp hk hkl hpn hpm, ht_FH.setv hT hF hb hp hk hkl hpn hpm (fun a ha hr => ?_) (fun a ha hr hn => ?_)⟩
  · by_cases e : a = b
    · rw [e, va_up_self] at hr; cases hr
    · rw [va_up_ne _ _ e] at hr ⊢
      have hN1 : N1 a = N a := by
        rcases hmk.1 a with q | q
        · exact q
        · rw [q] at hr; cases hr
      refine ⟨by rw [← hN1]; exact hr, (hmk.rp a).2.2.2, fun hi => ?_⟩
      cases hpx : ht_rp (N a) with
      | inl y => exact e (hT.leaf_eq hb ha hp hpx (((hT.leaf_in ha hpx k).mp hi).trans hk.symm))
      | inr zo =>
        have := hmk.2.1 a ha hi ⟨zo, hpx⟩ (hT.half ha hpx false).2.1
        rw [this] at hr; cases hr
  · have e : a ≠ b := fun z => hn (by rw [z]; exact hib)
    rw [va_up_ne _ _ e, hmk.2.2 a hn]
    exact hr
/-- tags for the cells that a new key brings -/
def ht_tnew (w : ht_W) (tg : Nat → Nat × Nat) (mf km hm vm B : Nat) : Nat → Nat × Nat := fun b => if b ∈ w.1 then tg b else if b = mf then (2, 0) else if b = km then (3, 0) else if b = hm then (4, mf) else if b = vm then (5, mf) else if b = B then (2, 0) else (4, B)
theorem ht_tnew_old {w : ht_W} {tg : Nat → Nat × Nat} {mf km hm vm B b : Nat} (h : b ∈ w.1) : ht_tnew w tg mf km hm vm B b = tg b := if_pos h
set_option maxHeartbeats 4000000 in
set_option maxRecDepth 100000 in
theorem c_X_set (l : Launch) (g : ht_G) (w : ht_W) {dgf : Int32 → ht_K → ht_K → ht_K} {X : Nat → Nat} {tg : Nat → Nat × Nat} {k : ht_K} {N : ht_N} {A : ht_AA} {F : List Nat} {top : Option Nat} {L : ht_L} {dt : ht_D} {opf : Nat → Option Nat} {sbf lsf enf : Nat → Int64} {ei : Int32} (hR : ht_Rp dgf g w X tg k N A F top L dt opf sbf lsf enf ei) (hcap : L.length < 512) (v1 v2 v3 v4 : Int64) : Met l y_X_set ws_X_set ({ frames := 4, cells := 6, slots := 27, locals := 140 } : Room) (va_Pc [.ref (X 0), .long v1, .long v2, .long v3, .long v4] (ht_WS g w)) (ht_Qi g (fun r u => ∃ (tg' : Nat → Nat × Nat) (N' : ht_N) (A' : ht_AA) (F' : List Nat) (top' : Option Nat) (L' : ht_L), ht_Rp dgf g u X tg' k N' A' F' top' L' dt opf sbf lsf enf ei ∧ ht_fr (fun b => (tg b).1 ≠ 0) w u ∧ (∀ b ∈ w.1, tg' b = tg b) ∧ ((r = 0 ∧ (∃ v0, (k, v0) ∈ L) ∧ L' = ht_sv L k (v1, v2, v3, v4)) ∨ (r = 1 ∧ (∀ q ∈ L, q.1 ≠ k) ∧ L' = (k, (v1, v2, v3, v4)) :: L)))) 6 27 (ht_A g) := by
  refine Met.ofW (cc := b_X_set) (maxL := 11) (ret := (some .int)) (by decide) rfl ?_
  intro p e s m args below meth c s₁ BB hml hv
  obtain ⟨rfl, HW⟩ := hv
  have HW := ht_I.start HW
  have hx := BB.exec
  have hb := BB.bytes
  have hr := BB.returns
  have hts := atoms_spec (ws := ws_X_set) BB.pre
  have htb : ∀ w ∈ bg, w.before _ s = true := fun w h => hts w (List.mem_cons_of_mem _ h)
  have hown : s.vm.findClass R_X = some m.cls := findClass_of_methodNamed BB.named
  have hlocks := BB.notSynchronized
  have hl := lv_entry ([.ref (X 0), .long v1, .long v2, .long v3, .long v4]) (n := 11) (Nat.le_of_ble_eq_true rfl)
  rw [lg_entry_eq]
  generalize (lg_sl ([.ref (X 0), .long v1, .long v2, .long v3, .long v4]) ++ List.replicate (11 - (lg_sl ([.ref (X 0), .long v1, .long v2, .long v3, .long v4])).length) Slot.unset).toArray = ls at hl ⊢
  have hl : lv_has ls 11 [(0, .ref (X 0)), (1, .long v1), (3, .long v2), (5, .long v3), (7, .long v4)] := hl
  obtain ⟨hX, hK, hDg, hOp, hSb, hLs, hEn, hN, hT, hF, htg, hlen⟩ := id hR
  unfold ht_xo at hX
  have n_X_0_X_1 : X 0 ≠ X 1 := ht_tne (htg.1 0 (by decide)) (htg.1 1 (by decide)) (by decide)
  refine lv_aload_n hx hb d_X_set_0 rfl (lv_at hl 0 rfl) ?_
  refine ht_cq HW (va_runV (own := R_X) (C := R_X) (As := []) (rest := []) ⟨hx, hb, hml, hown, htb⟩ (c_X_leafOfKey l g w hX hK hN hT) (cwV 0 htb (ht_gv wd_79 wd_81 sl_0 wd_1 g_X_leafOfKey) rfl rfl rfl (by decide +kernel) ⟨Nat.le_of_ble_eq_true rfl, Nat.le_of_ble_eq_true rfl⟩) (HW.preV hX rfl _) rfl rfl hl.1 rfl (lv_room (Nat.le_of_ble_eq_true rfl)) d_X_set_1 ⟨Nat.le_of_ble_eq_true rfl, Nat.le_of_ble_eq_true rfl⟩) (fun q2 u1 H locs pn HW => ?_)
  obtain ⟨pn, eww⟩ := pn
  subst eww
  rcases pn with ⟨er, hnk⟩ | ⟨b, v0, er, hbF, hp, hbk⟩
  · subst er
    refine W.eq (g2 := F0 _ 4 ls [.null]) rfl ?_
    refine lv_astoreN (lv' := [(9, .null), (0, .ref (X 0)), (1, .long v1), (3, .long v2), (5, .long v3), (7, .long v4)]) hx hb d_X_set_4 hl (by decide) rfl (fun ls hl => ?_)
    refine lv_aloadN hx hb d_X_set_6 (lv_at hl 0 rfl) ?_
    refine lv_ifnullN (tgt := 41) hx hb d_X_set_8 (by decide) ?_
    refine lv_aload_n hx hb d_X_set_41 rfl (lv_at hl 1 rfl) ?_
    refine ht_get (C := R_X) (T := F_X) (N := 9) (v := .int (nI L.length)) hx hb htb i_X hown HW hX rfl 4 (by decide) (htb _ wd_44) (fun _ h9 => h9) rfl d_X_set_42 ?_
    refine lv_sipush (v := 512) hx hb d_X_set_45 (by decide) ?_
    refine lv_icmp_lt (tgt := 54) hx hb d_X_set_48 (by decide) (fun c48 => ?_) (fun c48 => ?_)
    · refine ht_new (C := R_L) (T := F_L) (N := 5) (ci := 2) (fs := [.null, .int 0, .null, .int 0, .null]) hx hb htb i_L t_L t_L_ok hown (htb _ wd_95) (htb _ wd_110) (htb _ wd_7) HW rfl (fun j hj => by rcases (show j = 0 ∨ j = 1 ∨ j = 2 ∨ j = 3 ∨ j = 4 by omega) with rfl | rfl | rfl | rfl | rfl <;> rfl) (Nat.le_of_ble_eq_true rfl) (Nat.le_of_ble_eq_true rfl) d_X_set_54 (fun mf H hq_mf HW => ?_)
      obtain ⟨u3, hu3⟩ : ∃ zW : ht_W, zW = ht_nw w mf (.inr (2, [.null, .int 0, .null, .int 0, .null]) : va_E) := ⟨_, rfl⟩
      have HW := HW.to hu3.symm
      have n_X_0_mf : (X 0) ≠ mf := fun z9 => hq_mf (by rw [← z9]; exact hX.1)
      have n_X_1_mf : (X 1) ≠ mf := fun z9 => hq_mf (by rw [← z9]; exact hK.1)
      have hX : ht_at u3 (X 0) (.inr (0, [.ref (X 1), .ref (X 2), .ref (X 5), va_rf top, .int (nI L.length), .ref (X 6), .ref (X 7), .ref (X 8), .int ei]) : va_E) := by rw [hu3]; exact ht_at_old hX hq_mf
      have hK : ht_at u3 (X 1) (ht_al g 4 (ht_kf k)) := by rw [hu3]; exact ht_at_old hK hq_mf
      have h_mf : ht_at u3 mf (.inr (2, [.null, .int 0, .null, .int 0, .null]) : va_E) := by rw [hu3]; exact ht_at_new
      refine lv_dup hx hb d_X_set_57 rfl ?_
      refine lv_aload_n hx hb d_X_set_58 rfl (lv_at hl 1 rfl) ?_
      refine ht_get (C := R_X) (T := F_X) (N := 9) (v := .ref (X 1)) hx hb htb i_X hown HW hX rfl 0 (by decide) (htb _ wd_40) (fun _ h9 => h9) rfl d_X_set_59 ?_
      refine ht_clone hx hb (hml.trans hl.1.symm) hown (htb _ wd_111) (htb _ wd_112) (htb _ wd_113) (htb _ wd_114) (htb _ wd_115) HW hK (Nat.le_of_ble_eq_true rfl) (Nat.le_of_ble_eq_true rfl) (Nat.le_of_ble_eq_true rfl) (Nat.le_of_ble_eq_true rfl) d_X_set_62 (fun km H hq_km HW => ?_)
      obtain ⟨u4, hu4⟩ : ∃ zW : ht_W, zW = ht_nw u3 km (ht_al g 4 (ht_kf k)) := ⟨_, rfl⟩
      have HW := HW.to hu4.symm
      have n_X_0_km : (X 0) ≠ km := fun z9 => hq_km (by rw [← z9]; exact hX.1)
      have n_X_1_km : (X 1) ≠ km := fun z9 => hq_km (by rw [← z9]; exact hK.1)
      have n_mf_km : mf ≠ km := fun z9 => hq_km (by rw [← z9]; exact h_mf.1)
      have hX : ht_at u4 (X 0) (.inr (0, [.ref (X 1), .ref (X 2), .ref (X 5), va_rf top, .int (nI L.length), .ref (X 6), .ref (X 7), .ref (X 8), .int ei]) : va_E) := by rw [hu4]; exact ht_at_old hX hq_km
      have hK : ht_at u4 (X 1) (ht_al g 4 (ht_kf k)) := by rw [hu4]; exact ht_at_old hK hq_km
      have h_mf : ht_at u4 mf (.inr (2, [.null, .int 0, .null, .int 0, .null]) : va_E) := by rw [hu4]; exact ht_at_old h_mf hq_km
      have h_km : ht_at u4 km (ht_al g 4 (ht_kf k)) := by rw [hu4]; exact ht_at_new
      refine ht_castJ hx hb hown (htb _ wd_117) HW h_km d_X_set_65 ?_
      have hX9 := hX
      have hK9 := hK
      refine ht_cv HW (va_runI (own := R_X) (As := [.ref km]) (rest := [.ref mf]) ⟨hx, hb, hml, hown, htb⟩ (c_L_init l g u4 (ka := km) h_mf) (cwI 1 htb g_L_init rfl rfl rfl (htb _ wd_7) (htb _ wd_118) (htb _ wd_119) rfl (by decide +kernel) ⟨Nat.le_of_ble_eq_true rfl, Nat.le_of_ble_eq_true rfl⟩) (HW.preS _) rfl rfl hl.1 rfl (lv_room (Nat.le_of_ble_eq_true rfl)) d_X_set_68 ⟨Nat.le_of_ble_eq_true rfl, Nat.le_of_ble_eq_true rfl⟩) (fun u5 H locs pl HW => ?_)
      obtain ⟨hm, vm, hq_hm, hq_vm, n_hm_vm, eu5⟩ := pl
      have n_mf_hm : mf ≠ hm := fun z9 => hq_hm (by rw [← z9]; exact h_mf.1)
      have n_mf_vm : mf ≠ vm := fun z9 => hq_vm (by rw [← z9]; exact h_mf.1)
      have n_km_hm : km ≠ hm := fun z9 => hq_hm (by rw [← z9]; exact h_km.1)
      have n_km_vm : km ≠ vm := fun z9 => hq_vm (by rw [← z9]; exact h_km.1)
      have hX : ht_at u5 (X 0) (.inr (0, [.ref (X 1), .ref (X 2), .ref (X 5), va_rf top, .int (nI L.length), .ref (X 6), .ref (X 7), .ref (X 8), .int ei]) : va_E) := by rw [eu5]; exact ht_at_ne (ht_at_old2 hX hq_hm hq_vm n_hm_vm) n_X_0_mf
      have hK : ht_at u5 (X 1) (ht_al g 4 (ht_kf k)) := by rw [eu5]; exact ht_at_ne (ht_at_old2 hK hq_hm hq_vm n_hm_vm) n_X_1_mf
      have h_km : ht_at u5 km (ht_al g 4 (ht_kf k)) := by rw [eu5]; exact ht_at_ne (ht_at_old2 h_km hq_hm hq_vm n_hm_vm) (Ne.symm n_mf_km)
      have h_mf : ht_at u5 mf (.inr (2, [.ref km, .int 256, .ref hm, .int 0, .ref vm]) : va_E) := by rw [eu5]; exact ht_at_self (ht_at_old2 h_mf hq_hm hq_vm n_hm_vm)
      have hvn : vm ∉ (ht_nw u4 hm (ht_al g 4 (fun _ => 0))).1 := fun z9 => (List.mem_append.mp z9).elim hq_vm (fun y9 => n_hm_vm (List.mem_singleton.mp y9).symm)
      have h_hm : ht_at u5 hm (ht_al g 4 (fun _ => 0)) := by rw [eu5]; exact ht_at_ne (ht_at_old ht_at_new hvn) n_mf_hm.symm
      have h_vm : ht_at u5 vm (ht_al g 4 (fun _ => 0)) := by rw [eu5]; exact ht_at_ne ht_at_new n_mf_vm.symm
      refine lv_astore (lv' := [(10, .ref mf), (9, .null), (0, .ref (X 0)), (1, .long v1), (3, .long v2), (5, .long v3), (7, .long v4)]) hx hb d_X_set_71 hl (by decide) rfl (fun ls hl => ?_)
      refine lv_aload hx hb d_X_set_73 (lv_at hl 0 rfl) ?_
      refine ht_get (C := R_L) (T := F_L) (N := 5) (v := .ref vm) hx hb htb i_L hown HW h_mf rfl 4 (by decide) (htb _ wd_126) (fun _ h9 => h9) rfl d_X_set_75 ?_
      refine lv_lload_n hx hb d_X_set_78 rfl (lv_at hl 3 rfl) ?_
      refine lv_lload_n hx hb d_X_set_79 rfl (lv_at hl 4 rfl) ?_
      refine lv_lload hx hb d_X_set_80 (lv_at hl 5 rfl) ?_
      refine lv_lload hx hb d_X_set_82 (lv_at hl 6 rfl) ?_
      refine ht_cv HW (va_runS (own := R_X) (As := [.ref vm, .long v1, .long v2, .long v3, .long v4]) (rest := []) ⟨hx, hb, hml, hown, htb⟩ (c_X_fill l g u5 h_vm v1 v2 v3 v4) (va_cwS 5 htb (ht_gs wd_72 wd_73 wd_1 g_X_fill) rfl rfl rfl (by decide +kernel) ⟨Nat.le_of_ble_eq_true rfl, Nat.le_of_ble_eq_true rfl⟩) (HW.preS _) rfl rfl hl.1 rfl (lv_room (Nat.le_of_ble_eq_true rfl)) d_X_set_84 ⟨Nat.le_of_ble_eq_true rfl, Nat.le_of_ble_eq_true rfl⟩) (fun u6 H locs pf HW => ?_)
      have hX : ht_at u6 (X 0) (.inr (0, [.ref (X 1), .ref (X 2), .ref (X 5), va_rf top, .int (nI L.length), .ref (X 6), .ref (X 7), .ref (X 8), .int ei]) : va_E) := by rw [pf]; exact ht_at_ne hX (fun z9 => hq_vm (by rw [← z9]; exact hX9.1))
      have hK : ht_at u6 (X 1) (ht_al g 4 (ht_kf k)) := by rw [pf]; exact ht_at_ne hK (fun z9 => hq_vm (by rw [← z9]; exact hK9.1))
      have h_mf : ht_at u6 mf (.inr (2, [.ref km, .int 256, .ref hm, .int 0, .ref vm]) : va_E) := by rw [pf]; exact ht_at_ne h_mf n_mf_vm
      have h_km : ht_at u6 km (ht_al g 4 (ht_kf k)) := by rw [pf]; exact ht_at_ne h_km n_km_vm
      have h_hm : ht_at u6 hm (ht_al g 4 (fun _ => 0)) := by rw [pf]; exact ht_at_ne h_hm n_hm_vm
      have h_vm : ht_at u6 vm (ht_al g 4 (ht_kf (v1, v2, v3, v4))) := by rw [pf]; exact ht_at_self h_vm
      refine lv_aload_n hx hb d_X_set_87 rfl (lv_at hl 2 rfl) ?_
      refine lv_aload hx hb d_X_set_88 (lv_at hl 0 rfl) ?_
      have hmw : mf ∉ w.1 := hq_mf
      have hkw : km ∉ w.1 := fun z9 => hq_km (by rw [hu3]; exact List.mem_append_left _ z9)
      have hhw : hm ∉ w.1 := fun z9 => hq_hm (by rw [hu4, hu3]; exact List.mem_append_left _ (List.mem_append_left _ z9))
      have hvw : vm ∉ w.1 := fun z9 => hq_vm (by rw [hu4, hu3]; exact List.mem_append_left _ (List.mem_append_left _ z9))
      have f0 : ht_fr (fun _ => False) w u6 := by
        rw [pf, eu5, hu4, hu3]
        exact (((((ht_fr.rf.nwn hmw).nwn hkw).nwn hhw).nwn hvw).upn hmw).upn hvw
      have hNi := hN.fr f0 (fun _ _ z9 => z9) (fun _ _ _ _ z9 => z9)
      have hmF : mf ∉ F := fun z9 => hmw (hN.in z9)
      have hXi := hX
      refine ht_cv HW (va_runV (own := R_X) (C := R_X) (As := [.ref mf]) (rest := []) ⟨hx, hb, hml, hown, htb⟩ (c_X_insert l g u6 hX hK hNi hT hF h_mf h_km h_hm h_vm hmF hnk) (cwV 1 htb (ht_gv wd_156 wd_158 sl_3 wd_1 g_X_insert) rfl rfl rfl (by decide +kernel) ⟨Nat.le_of_ble_eq_true rfl, Nat.le_of_ble_eq_true rfl⟩) (HW.preV hX rfl _) rfl rfl hl.1 rfl (lv_room (Nat.le_of_ble_eq_true rfl)) d_X_set_90 ⟨Nat.le_of_ble_eq_true rfl, Nat.le_of_ble_eq_true rfl⟩) (fun u7 H locs pi HW => ?_)
      obtain ⟨N', A', F', top', hX', hNd', hT', hFH', hfr', hcase, hleaf⟩ := pi
      have hX : ht_at u7 (X 0) (.inr (0, [.ref (X 1), .ref (X 2), .ref (X 5), va_rf top', .int (nI L.length), .ref (X 6), .ref (X 7), .ref (X 8), .int ei]) : va_E) := hX'
      refine lv_aload_n hx hb d_X_set_93 rfl (lv_at hl 2 rfl) ?_
      refine lv_dup hx hb d_X_set_94 rfl ?_
      refine ht_get (C := R_X) (T := F_X) (N := 9) (v := .int (nI L.length)) hx hb htb i_X hown HW hX rfl 4 (by decide) (htb _ wd_44) (fun _ h9 => h9) rfl d_X_set_95 ?_
      refine lv_iconst (v := 1) hx hb d_X_set_98 (by decide) ?_
      refine lv_iadd hx hb d_X_set_99 ?_
      refine lv_topi (fun cn ecn => ?_)
      refine ht_put (C := R_X) (T := F_X) (N := 9) (v := .int cn) (ty := .int) hx hb htb i_X t_X t_X_ok n_X hown HW hX rfl 4 (by decide) (htb _ wd_44) (fun _ h9 => h9) rfl (by decide +kernel) rfl rfl (Nat.le_of_ble_eq_true rfl) d_X_set_100 (fun H locs HW => ?_)
      obtain ⟨u8, hu8⟩ : ∃ zW : ht_W, zW = ht_up u7 (X 0) (.inr (0, [.ref (X 1), .ref (X 2), .ref (X 5), va_rf top', .int cn, .ref (X 6), .ref (X 7), .ref (X 8), .int ei]) : va_E) := ⟨_, rfl⟩
      have HW : ht_I g s u8 H locs := by rw [hu8]; exact HW
      have hX : ht_at u8 (X 0) (.inr (0, [.ref (X 1), .ref (X 2), .ref (X 5), va_rf top', .int cn, .ref (X 6), .ref (X 7), .ref (X 8), .int ei]) : va_E) := by rw [hu8]; exact ht_at_self hX
      refine lv_iconst (v := 1) hx hb d_X_set_103 (by decide) ?_
      have ecn2 : cn = nI ((k, (v1, v2, v3, v4)) :: L).length := by rw [ecn, nI_1]; rfl
      have hfrI : ht_fr (fun z9 => z9 ∈ F ∨ z9 = X 0) w u8 := by
        rw [hu8]
        exact ((f0.mono (fun _ z9 => z9.elim)).trans hfr').trans (ht_fr.up (Or.inr rfl))
      have hNf : ht_Nd g u8 N' A' F' := by
        rw [hu8]
        exact hNd'.upo hX' (fun z9 => by
          rcases hcase with ⟨q1, -⟩ | ⟨B9, q9, q1, -, q3, -⟩
          · rw [q1] at z9
            exact hmw (by rw [← List.mem_singleton.mp z9]; exact hR.1.1)
          · rw [q1] at z9
            rcases List.mem_cons.mp z9 with y9 | y9
            · exact hmw (by rw [← y9]; exact hR.1.1)
            · rcases List.mem_cons.mp y9 with y9 | y9
              · exact q3 (by rw [← y9]; exact hXi.1)
              · exact hR.out 0 (by decide) y9)
      have hS9 : ∀ i9, 1 ≤ i9 → i9 < 9 → ¬ (X i9 ∈ F ∨ X i9 = X 0) := fun i9 h1 hi9 q9 => q9.elim (fun y9 => hR.out i9 hi9 y9) (fun y9 => ht_tne (htg.1 i9 hi9) (htg.1 0 (by decide)) (fun z9 => by injection z9 with z1 z2; omega) y9)
      have hwo : ∀ z9, z9 ∈ w.1 → z9 ∈ u6.1 := fun z9 h9 => (f0 z9 h9 (fun q9 => q9)).1
      have hfin : ∃ tg' : Nat → Nat × Nat, ht_tgs tg' X N' A' F' ∧ (∀ b ∈ w.1, tg' b = tg b) ∧ F'.length ≤ 2 * ((k, (v1, v2, v3, v4)) :: L).length := by
        have hX9w : ∀ i9, i9 < 9 → X i9 ∈ w.1 := fun i9 hi9 => by
          rcases (show i9 = 0 ∨ i9 = 1 ∨ i9 = 2 ∨ i9 = 3 ∨ i9 = 4 ∨ i9 = 5 ∨ i9 = 6 ∨ i9 = 7 ∨ i9 = 8 by omega) with rfl | rfl | rfl | rfl | rfl | rfl | rfl | rfl | rfl
          · exact hR.1.1
          · exact hR.2.1.1
          · exact hDg.1.1
          · exact hDg.2.1.1
          · exact hDg.2.2.1
          · exact hOp.1
          · exact hSb.1
          · exact hLs.1
          · exact hEn.1
        have em : ∀ B9, ht_tnew w tg mf km hm vm B9 mf = (2, 0) := fun B9 => by unfold ht_tnew; rw [if_neg hmw, if_pos rfl]
        have ek : ∀ B9, ht_tnew w tg mf km hm vm B9 km = (3, 0) := fun B9 => by unfold ht_tnew; rw [if_neg hkw, if_neg n_mf_km.symm, if_pos rfl]
        have eh : ∀ B9, ht_tnew w tg mf km hm vm B9 hm = (4, mf) := fun B9 => by unfold ht_tnew; rw [if_neg hhw, if_neg n_mf_hm.symm, if_neg n_km_hm.symm, if_pos rfl]
        have ev : ∀ B9, ht_tnew w tg mf km hm vm B9 vm = (5, mf) := fun B9 => by unfold ht_tnew; rw [if_neg hvw, if_neg n_mf_vm.symm, if_neg n_km_vm.symm, if_neg n_hm_vm.symm, if_pos rfl]
        have hAw : ∀ a ∈ F, (A a).1 ∈ w.1 ∧ (A a).2.1 ∈ w.1 := fun a ha => ⟨(hN a ha).2.1.1, (hN a ha).2.2.1.1⟩
        rcases hcase with ⟨q1, q2, q3⟩ | ⟨B9, q9, q1, q2, q3, q4, q5, zo9, q6⟩
        · refine ⟨ht_tnew w tg mf km hm vm 0, ⟨fun i9 hi9 => (ht_tnew_old (hX9w i9 hi9)).trans (htg.1 i9 hi9), fun a ha => ?_⟩, fun b hb => ht_tnew_old hb, by rw [q1]; simp; omega⟩
          rw [q1] at ha
          rw [List.mem_singleton.mp ha, q2, va_up_self]
          exact ⟨em 0, ek 0, eh 0, fun _ _ => ev 0⟩
        · have nB : ∀ {z9 : Nat} {e9 : va_E}, ht_at u6 z9 e9 → B9 ≠ z9 := fun h9 y9 => q3 (by rw [y9]; exact h9.1)
          have nQ : ∀ {z9 : Nat} {e9 : va_E}, ht_at u6 z9 e9 → q9 ≠ z9 := fun h9 y9 => q4 (by rw [y9]; exact h9.1)
          have hBw : B9 ∉ w.1 := fun z9 => q3 (hwo _ z9)
          have hQw : q9 ∉ w.1 := fun z9 => q4 (hwo _ z9)
          have eB : ht_tnew w tg mf km hm vm B9 B9 = (2, 0) := by unfold ht_tnew; rw [if_neg hBw, if_neg (nB h_mf), if_neg (nB h_km), if_neg (nB h_hm), if_neg (nB h_vm), if_pos rfl]
          have eQ : ht_tnew w tg mf km hm vm B9 q9 = (4, B9) := by unfold ht_tnew; rw [if_neg hQw, if_neg (nQ h_mf), if_neg (nQ h_km), if_neg (nQ h_hm), if_neg (nQ h_vm), if_neg (fun z9 => q5 z9.symm)]
          refine ⟨ht_tnew w tg mf km hm vm B9, ⟨fun i9 hi9 => (ht_tnew_old (hX9w i9 hi9)).trans (htg.1 i9 hi9), fun a ha => ?_⟩, fun b hb => ht_tnew_old hb, by rw [q1]; simp; omega⟩
          rw [q1] at ha
          rcases List.mem_cons.mp ha with e9 | e9
          · rw [e9, q2, va_up_ne _ _ (nB h_mf).symm, va_up_self]
            exact ⟨em B9, ek B9, eh B9, fun _ _ => ev B9⟩
          · rcases List.mem_cons.mp e9 with e9 | e9
            · rw [e9, q2, va_up_self]
              exact ⟨eB, ek B9, eQ, fun v9 hv9 => by rw [q6] at hv9; cases hv9⟩
            · have n1 : a ≠ B9 := fun z9 => hBw (by rw [← z9]; exact hN.in e9)
              have n2 : a ≠ mf := fun z9 => hmF (by rw [← z9]; exact e9)
              rw [q2, va_up_ne _ _ n1, va_up_ne _ _ n2]
              obtain ⟨y1, y2, y3, y4⟩ := htg.2 a e9
              exact ⟨(ht_tnew_old (hN.in e9)).trans y1, (ht_tnew_old (hAw a e9).1).trans y2, (ht_tnew_old (hAw a e9).2).trans y3, fun v9 hv9 => (ht_tnew_old ((hN a e9).2.2.2 v9 (hleaf a e9 v9 hv9)).1).trans (y4 v9 (hleaf a e9 v9 hv9))⟩
      obtain ⟨tg', ht1, ht2, ht3⟩ := hfin
      have hRn := hR.re (tg' := tg') (L' := (k, (v1, v2, v3, v4)) :: L) hfrI hS9 (by rw [← ecn2]; exact hX) hNf hT' hFH' ht1 ht3
      exact ht_iret hx hb hr hlocks HW ⟨tg', N', A', F', top', _, hRn, hfrI.mono (fun z9 h9 => h9.elim (fun y9 => by rw [(htg.2 z9 y9).1]; decide) (fun y9 => by rw [y9, htg.1 0 (by decide)]; decide)), ht2, Or.inr ⟨rfl, hnk, rfl⟩⟩ d_X_set_104
    · exact absurd (show nI L.length < nI 512 from nI_lt hcap (by omega)) c48
  · subst er
    refine W.eq (g2 := F0 _ 4 ls [.ref b]) rfl ?_
    obtain ⟨t, ett⟩ : ∃ t, some t = top := by
      cases top with
      | none => rw [(hT.2.2.1.2 rfl).1] at hbF; cases hbF
      | some t => exact ⟨t, rfl⟩
    subst ett
    have hkv : (k, v0) ∈ L := by rw [← hbk]; exact (hT.2.2.2.1 b hbF v0 hp).2
    refine lv_astore (lv' := [(9, .ref b), (0, .ref (X 0)), (1, .long v1), (3, .long v2), (5, .long v3), (7, .long v4)]) hx hb d_X_set_4 hl (by decide) rfl (fun ls hl => ?_)
    refine lv_aload hx hb d_X_set_6 (lv_at hl 0 rfl) ?_
    refine lv_ifnull hx hb d_X_set_8 ?_
    refine lv_aload_n hx hb d_X_set_11 rfl (lv_at hl 1 rfl) ?_
    refine lv_sipush (v := 256) hx hb d_X_set_12 (by decide) ?_
    refine ht_cq HW (va_runV (own := R_X) (C := R_X) (As := [.int 256]) (rest := []) ⟨hx, hb, hml, hown, htb⟩ (c_X_stalePath l g w (t := t) hX hK hN hT 256 (Nat.le_refl _) 256 rfl hkv (by rw [ht_part_eq.mpr rfl]; exact Nat.le_refl _)) (cwV 1 htb (ht_gv wd_106 wd_108 sl_2 wd_1 g_X_stalePath) rfl rfl rfl (by decide +kernel) ⟨Nat.le_of_ble_eq_true rfl, Nat.le_of_ble_eq_true rfl⟩) (HW.preV hX rfl _) rfl rfl hl.1 rfl (lv_room (Nat.le_of_ble_eq_true rfl)) d_X_set_15 ⟨Nat.le_of_ble_eq_true rfl, Nat.le_of_ble_eq_true rfl⟩) (fun q10 u9 H locs ps HW => ?_)
    obtain ⟨N1, be, hN1, hfr1, hmk, -⟩ := ps
    have hX : ht_at u9 (X 0) (.inr (0, [.ref (X 1), .ref (X 2), .ref (X 5), .ref t, .int (nI L.length), .ref (X 6), .ref (X 7), .ref (X 8), .int ei]) : va_E) := hfr1.at hX (hR.out 0 (by decide))
    have hK : ht_at u9 (X 1) (ht_al g 4 (ht_kf k)) := hfr1.at hK (hR.out 1 (by decide))
    have hb1 := (hN1 b hbF).1
    have n_X_0_b : X 0 ≠ b := fun z9 => hR.out 0 (by decide) (by rw [z9]; exact hbF)
    have n_X_1_b : X 1 ≠ b := fun z9 => hR.out 1 (by decide) (by rw [z9]; exact hbF)
    refine lv_pop hx hb d_X_set_18 (by cases q10 <;> rfl) ?_
    refine lv_aload hx hb d_X_set_19 (lv_at hl 0 rfl) ?_
    refine lv_iconst (v := 0) hx hb d_X_set_21 (by decide) ?_
    refine ht_npt (b := false) hx hb htb hown HW hb1 (htb _ wd_139) (fun x h9 => u_same (htb _ wd_140) x h9) d_X_set_22 (fun H locs HW => ?_)
    obtain ⟨u11, hu11⟩ : ∃ zW : ht_W, zW = ht_up u9 b (ht_nc (ht_sf (N1 b) false) ((A b).1) ((A b).2.1) ((A b).2.2)) := ⟨_, rfl⟩
    have HW : ht_I g s u11 H locs := by rw [hu11]; exact HW
    have hX : ht_at u11 (X 0) (.inr (0, [.ref (X 1), .ref (X 2), .ref (X 5), .ref t, .int (nI L.length), .ref (X 6), .ref (X 7), .ref (X 8), .int ei]) : va_E) := by rw [hu11]; exact ht_at_ne hX n_X_0_b
    have hK : ht_at u11 (X 1) (ht_al g 4 (ht_kf k)) := by rw [hu11]; exact ht_at_ne hK n_X_1_b
    have hb1 : ht_at u11 b (ht_nc (ht_sf (N1 b) false) ((A b).1) ((A b).2.1) ((A b).2.2)) := by rw [hu11]; exact ht_at_self hb1
    obtain ⟨N2, eN2⟩ : ∃ z9 : ht_N, z9 = va_up N1 b (ht_sf (N1 b) false) := ⟨_, rfl⟩
    have hN2 : ht_Nd g u11 N2 A F := by rw [hu11, eN2]; exact hN1.sf hbF false
    have hp2 : ht_rp (N2 b) = .inl v0 := by rw [eN2, va_up_self]; exact (hmk.rp b).1.trans hp
    have hbl := hN2.lf hbF hp2
    have hvb := (hN2 b hbF).2.2.2 v0 hp2
    refine lv_aload hx hb d_X_set_25 (lv_at hl 0 rfl) ?_
    refine ht_get (C := R_L) (T := F_L) (N := 5) (v := .ref (A b).2.2) hx hb htb i_L hown HW hbl rfl 4 (by decide) (htb _ wd_126) (fun _ h9 => h9) rfl d_X_set_27 ?_
    refine lv_lload_n hx hb d_X_set_30 rfl (lv_at hl 2 rfl) ?_
    refine lv_lload_n hx hb d_X_set_31 rfl (lv_at hl 3 rfl) ?_
    refine lv_lload hx hb d_X_set_32 (lv_at hl 4 rfl) ?_
    refine lv_lload hx hb d_X_set_34 (lv_at hl 5 rfl) ?_
    refine ht_cv HW (va_runS (own := R_X) (As := [.ref (A b).2.2, .long v1, .long v2, .long v3, .long v4]) (rest := []) ⟨hx, hb, hml, hown, htb⟩ (c_X_fill l g u11 hvb v1 v2 v3 v4) (va_cwS 5 htb (ht_gs wd_72 wd_73 wd_1 g_X_fill) rfl rfl rfl (by decide +kernel) ⟨Nat.le_of_ble_eq_true rfl, Nat.le_of_ble_eq_true rfl⟩) (HW.preS _) rfl rfl hl.1 rfl (lv_room (Nat.le_of_ble_eq_true rfl)) d_X_set_36 ⟨Nat.le_of_ble_eq_true rfl, Nat.le_of_ble_eq_true rfl⟩) (fun u12 H locs pf HW => ?_)
    refine lv_iconst (v := 0) hx hb d_X_set_39 (by decide) ?_
    have htg2 : ht_tgs tg X N2 A F := htg.congr (fun a ha v9 hv9 => by
      rw [eN2] at hv9
      by_cases e9 : a = b
      · exact ⟨v0, by rw [e9]; exact hp⟩
      · rw [va_up_ne _ _ e9] at hv9
        exact ⟨v9, (hmk.rp a).1.symm.trans hv9⟩)
    have hN3 := hN2.val (v := (v1, v2, v3, v4)) htg2 hbF hp2
    have eN3 : va_up N2 b (ht_spy (N2 b) (.inl (v1, v2, v3, v4))) = va_up N1 b (ht_spy (ht_sf (N1 b) false) (.inl (v1, v2, v3, v4))) := by
      rw [eN2, va_up_self, bx_uu]
    rw [← pf, eN3] at hN3
    have hpu := ht_set_pure (v := (v1, v2, v3, v4)) hT hF hmk hbF hp hbk
    have tvb := (htg.2 b hbF).2.2.2 v0 hp
    have hfr3 : ht_fr (fun z9 => z9 ∈ F ∨ z9 = (A b).2.2) w u12 := by
      rw [pf, hu11]
      exact ((hfr1.mono (fun z9 h9 => Or.inl h9)).trans (ht_fr.up (Or.inl hbF))).trans (ht_fr.up (Or.inr rfl))
    have hS9 : ∀ i9, i9 < 9 → ¬ (X i9 ∈ F ∨ X i9 = (A b).2.2) := fun i9 hi9 q9 => q9.elim (fun y9 => hR.out i9 hi9 y9) (fun y9 => ht_tne (htg.1 i9 hi9) tvb (fun z9 => by cases z9) y9)
    have hRn := hR.re (tg' := tg) (L' := ht_sv L k (v1, v2, v3, v4)) hfr3 (fun i9 _ h9 => hS9 i9 h9) (by
      have h9 := hfr3.at hR.1 (hS9 0 (by decide))
      have e9 : (ht_sv L k (v1, v2, v3, v4)).length = L.length := by unfold ht_sv; rw [List.length_map]
      rw [e9]
      exact h9) hN3 hpu.1 hpu.2 (htg.congr (fun a ha v9 hv9 => by
      by_cases e9 : a = b
      · exact ⟨v0, by rw [e9]; exact hp⟩
      · rw [va_up_ne _ _ e9] at hv9
        exact ⟨v9, (hmk.rp a).1.symm.trans hv9⟩)) (by unfold ht_sv; rw [List.length_map]; exact hlen)
    refine W.widen (k := 6) (n := 27) (by omega) (by omega) ?_
    exact ht_iret hx hb hr hlocks HW ⟨tg, _, A, F, some t, _, hRn, hfr3.mono (fun z9 h9 => h9.elim (fun y9 => by rw [(htg.2 z9 y9).1]; decide) (fun y9 => by rw [y9, tvb]; exact fun z9 => by cases z9)), fun _ _ => rfl, Or.inl ⟨rfl, ⟨v0, hkv⟩, rfl⟩⟩ d_X_set_40
end
section
theorem ht_T.cg {N N' : ht_N} {F : List Nat} {top : Option Nat} {l : ht_L} (h : ht_T N F top l) (hc : ∀ a, ht_rk (N' a) = ht_rk (N a) ∧ ht_rl (N' a) = ht_rl (N a) ∧ ht_rp (N' a) = ht_rp (N a)) : ht_T N' F top l := by
  obtain ⟨t1, t2, t3, t4, t5, t6, t7, t8⟩ := h
  have hi : ∀ a x, ht_in N' a x ↔ ht_in N a x := fun a x => by unfold ht_in; rw [(hc a).1, (hc a).2.1]
  refine ⟨t1, t2, ⟨fun t ht => ⟨(t3.1 t ht).1, fun q hq => (hi t _).mpr ((t3.1 t ht).2 q hq)⟩, t3.2⟩, fun a ha v hv => ?_, fun q hq => ?_, fun a ha zo hz => ?_, fun a ha b hb hl hin => ?_, fun a ha => ?_⟩
  · rw [(hc a).2.2] at hv
    rw [(hc a).1, (hc a).2.1]
    exact t4 a ha v hv
  · obtain ⟨a, ha, x, y⟩ := t5 q hq
    exact ⟨a, ha, by rw [(hc a).2.2]; exact x, by rw [(hc a).1]; exact y⟩
  · rw [(hc a).2.2] at hz
    obtain ⟨x, y⟩ := t6 a ha zo hz
    refine ⟨by rw [(hc a).2.1]; exact x, fun b => ⟨(y b).1, by rw [(hc a).2.1, (hc _).2.1]; exact (y b).2.1, fun q hq => ?_⟩⟩
    rw [hi, hi, (hc a).2.1]
    exact (y b).2.2 q hq
  · rw [(hc a).2.1, (hc b).2.1] at hl
    rw [(hc b).1, hi] at hin
    exact t7 a ha b hb hl hin
  · obtain ⟨q, hq, x⟩ := t8 a ha
    exact ⟨q, hq, (hi a _).mpr x⟩
theorem ht_in_cg {N N' : ht_N} (hc : ∀ a, ht_rk (N' a) = ht_rk (N a) ∧ ht_rl (N' a) = ht_rl (N a) ∧ ht_rp (N' a) = ht_rp (N a)) (a : Nat) (x : ht_K) : ht_in N' a x ↔ ht_in N a x := by
  unfold ht_in
  rw [(hc a).1, (hc a).2.1]
theorem ht_part_self (k : ht_K) : ht_part k k = 256 := ht_part_eq.mpr rfl
theorem ht_pk (k v : ht_K) : ht_part k (k, v).1 = 256 := ht_part_self k
/-- the node at which a key's way stands behind the branch ab, below level p -/
theorem ht_slot.be {N : ht_N} {F : List Nat} {top : Option Nat} {l : ht_L} {k : ht_K} {ab : Option Nat} {be P : Nat} (h : ht_T N F top l) (hP : P ∈ F) (hi : ht_in N P k) (hs : ht_slot N F top k (ht_rl (N P)) ab be) {v : ht_K} (hkv : (k, v) ∈ l) : be = P := by
  have hik : ht_in N be k := ht_slot.into (q := (k, v)) h hs hkv (by rw [ht_pk k v]; exact h.lv hP)
  refine h.same hs.1 hP hi hik (Nat.le_antisymm ?_ hs.2.1)
  obtain ⟨h1, h2, ⟨-, h3⟩ | ⟨c, zo, -, hc, hic, hl, hz, he⟩⟩ := hs
  · subst h3
    exact h.topL hP
  · rw [← he]
    exact h.nojump hP hc hz hic hi hl
theorem ht_rem_pure {dgf : Int32 → ht_K → ht_K → ht_K} {N N1 N2 N3 N' : ht_N} {F : List Nat} {top : Option Nat} {L : ht_L} {k v : ht_K} {ab : Option Nat} {m P o : Nat} {zp : Nat × Nat} (h : ht_T N F top L) (hf : ht_FH dgf N F top L) (hm : m ∈ F) (hmv : ht_rp (N m) = .inl v) (hmk : ht_rk (N m) = k) (hP : P ∈ F) (hPz : ht_rp (N P) = .inr zp) (hPm : ht_ch zp (ht_bit k (ht_rl (N P))) = m) (ho : ht_ch zp (!ht_bit k (ht_rl (N P))) = o)
    (hab : (ab = none ∧ top = some P) ∨ ∃ c zc, ab = some c ∧ c ∈ F ∧ ht_rp (N c) = .inr zc ∧ ht_ch zc (ht_bit k (ht_rl (N c))) = P) (hk1 : ht_mkd N F k 256 N1) (e2 : N2 = va_up N1 o (ht_sf (N1 o) false)) (hk3 : ht_mkd N2 F k (ht_rl (N P)) N3)
    (hn' : ∀ a, ht_rk (N' a) = ht_rk (N3 a) ∧ ht_rl (N' a) = ht_rl (N3 a) ∧ ht_rh (N' a) = ht_rh (N3 a) ∧ ht_rf (N' a) = ht_rf (N3 a)) (hpn : ∀ a, ab ≠ some a → ht_rp (N' a) = ht_rp (N3 a)) (hpa : ∀ a zo, ab = some a → ht_rp (N a) = .inr zo → ht_rp (N' a) = .inr (ht_zo zo (ht_bit k (ht_rl (N a))) o)) :
    ht_T N' ((F.erase m).erase P) (if ab = none then some o else top) (L.erase (k, v)) ∧ ht_FH dgf N' ((F.erase m).erase P) (if ab = none then some o else top) (L.erase (k, v)) := by
  have c2 : ∀ a, ht_rk (N2 a) = ht_rk (N a) ∧ ht_rl (N2 a) = ht_rl (N a) ∧ ht_rp (N2 a) = ht_rp (N a) ∧ ht_rh (N2 a) = ht_rh (N a) := by
    intro a
    rw [e2]
    by_cases e : a = o
    · rw [e, va_up_self]
      exact ⟨(hk1.rp o).2.1, (hk1.rp o).2.2.1, (hk1.rp o).1, (hk1.rp o).2.2.2⟩
    · rw [va_up_ne _ _ e]
      exact ⟨(hk1.rp a).2.1, (hk1.rp a).2.2.1, (hk1.rp a).1, (hk1.rp a).2.2.2⟩
  have hkl : ∀ a ∈ F, ht_rk (N' a) = ht_rk (N a) ∧ ht_rl (N' a) = ht_rl (N a) := fun a _ => ⟨(hn' a).1.trans ((hk3.rp a).2.1.trans (c2 a).1), (hn' a).2.1.trans ((hk3.rp a).2.2.1.trans (c2 a).2.1)⟩
  have hpn2 : ∀ a ∈ F, ab ≠ some a → ht_rp (N' a) = ht_rp (N a) := fun a _ ha => (hpn a ha).trans ((hk3.rp a).1.trans (c2 a).2.2.1)
  subst ho
  have hT' := h.remove (N' := N') hm hmv hmk hP hPz hPm hab hkl hpn2 hpa
  have hF : ∀ {a : Nat}, a ∈ (F.erase m).erase P ↔ a ∈ F ∧ a ≠ m ∧ a ≠ P := by
    intro a
    rw [(h.1.erase m).mem_erase_iff, h.1.mem_erase_iff]
    exact ⟨fun x => ⟨x.2.2, x.2.1, x.1⟩, fun x => ⟨x.2.2, x.2.1, x.1⟩⟩
  refine ⟨hT', ht_FH.remove h hf hm hmv hmk hP hPz hPm hab hT' hkl hpn2 hpa (fun a ha hr => ?_) (fun a ha hr hn hne => ?_)⟩
  · obtain ⟨haF, ham, -⟩ := hF.mp ha
    rw [(hn' a).2.2.2] at hr
    have q3 : N3 a = N2 a := by
      rcases hk3.1 a with q | q
      · exact q
      · rw [q] at hr; cases hr
    rw [q3, e2] at hr
    have hao : a ≠ ht_ch zp (!ht_bit k (ht_rl (N P))) := fun z => by rw [z, va_up_self] at hr; cases hr
    rw [va_up_ne _ _ hao] at hr
    have q1 : N1 a = N a := by
      rcases hk1.1 a with q | q
      · exact q
      · rw [q] at hr; cases hr
    refine ⟨by rw [← q1]; exact hr, (hn' a).2.2.1.trans ((hk3.rp a).2.2.2.trans (c2 a).2.2.2), fun hi => ?_, hao⟩
    cases hpx : ht_rp (N a) with
    | inl y => exact ham (h.leaf_eq hm haF hmv hpx (((h.leaf_in haF hpx k).mp hi).trans hmk.symm))
    | inr zo =>
      have := hk1.2.1 a haF hi ⟨zo, hpx⟩ (h.half haF hpx false).2.1
      rw [this] at hr; cases hr
  · have hi2 : ¬ ht_in N2 a k := fun z => hn ((ht_in_cg (fun b => ⟨(c2 b).1, (c2 b).2.1, (c2 b).2.2.1⟩) a k).mp z)
    rw [(hn' a).2.2.2, hk3.2.2 a hi2, e2, va_up_ne _ _ hne, hk1.2.2 a hn]
    exact hr
theorem ht_Nd.sub {g : ht_G} {w : ht_W} {N : ht_N} {A : ht_AA} {F F' : List Nat} (h : ht_Nd g w N A F) (hs : ∀ a ∈ F', a ∈ F) : ht_Nd g w N A F' := fun a ha => h a (hs a ha)
theorem ht_er_sub {F : List Nat} {m P : Nat} : ∀ a ∈ (F.erase m).erase P, a ∈ F := fun _ h => List.mem_of_mem_erase (List.mem_of_mem_erase h)
set_option maxHeartbeats 4000000 in
set_option maxRecDepth 100000 in
theorem c_X_remove (l : Launch) (g : ht_G) (w : ht_W) {dgf : Int32 → ht_K → ht_K → ht_K} {X : Nat → Nat} {tg : Nat → Nat × Nat} {k : ht_K} {N : ht_N} {A : ht_AA} {F : List Nat} {top : Option Nat} {L : ht_L} {dt : ht_D} {opf : Nat → Option Nat} {sbf lsf enf : Nat → Int64} {ei : Int32} (hR : ht_Rp dgf g w X tg k N A F top L dt opf sbf lsf enf ei) : Met l y_X_remove ws_X_remove ({ frames := 4, cells := 0, slots := 0, locals := 140 } : Room) (va_Pc [.ref (X 0)] (ht_WS g w)) (ht_Qi g (fun r u => ∃ (N' : ht_N) (F' : List Nat) (top' : Option Nat) (L' : ht_L), ht_Rp dgf g u X tg k N' A F' top' L' dt opf sbf lsf enf ei ∧ ht_fr (fun b => (tg b).1 ≠ 0) w u ∧ ((r = -2 ∧ (∀ q ∈ L, q.1 ≠ k) ∧ L' = L) ∨ (r = 1 ∧ ∃ v0, (k, v0) ∈ L ∧ L' = L.erase (k, v0))))) 0 0 (ht_A g) := by
  refine Met.ofW (cc := b_X_remove) (maxL := 3) (ret := (some .int)) (by decide) rfl ?_
  intro p e s m args below meth c s₁ BB hml hv
  obtain ⟨rfl, HW⟩ := hv
  have HW := ht_I.start HW
  have hx := BB.exec
  have hb := BB.bytes
  have hr := BB.returns
  have hts := atoms_spec (ws := ws_X_remove) BB.pre
  have htb : ∀ w ∈ bg, w.before _ s = true := fun w h => hts w (List.mem_cons_of_mem _ h)
  have hown : s.vm.findClass R_X = some m.cls := findClass_of_methodNamed BB.named
  have hlocks := BB.notSynchronized
  have hl := lv_entry ([.ref (X 0)]) (n := 3) (Nat.le_of_ble_eq_true rfl)
  rw [lg_entry_eq]
  generalize (lg_sl ([.ref (X 0)]) ++ List.replicate (3 - (lg_sl ([.ref (X 0)])).length) Slot.unset).toArray = ls at hl ⊢
  have hl : lv_has ls 3 [(0, .ref (X 0))] := hl
  obtain ⟨hX, hK, hDg, hOp, hSb, hLs, hEn, hN, hT, hF, htg, hlen⟩ := id hR
  unfold ht_xo at hX
  have n_X_0_X_1 : X 0 ≠ X 1 := ht_tne (htg.1 0 (by decide)) (htg.1 1 (by decide)) (by decide)
  refine lv_aload_n hx hb d_X_remove_0 rfl (lv_at hl 0 rfl) ?_
  refine ht_cq HW (va_runV (own := R_X) (C := R_X) (As := []) (rest := []) ⟨hx, hb, hml, hown, htb⟩ (c_X_leafOfKey l g w hX hK hN hT) (cwV 0 htb (ht_gv wd_79 wd_81 sl_0 wd_1 g_X_leafOfKey) rfl rfl rfl (by decide +kernel) ⟨Nat.le_of_ble_eq_true rfl, Nat.le_of_ble_eq_true rfl⟩) (HW.preV hX rfl _) rfl rfl hl.1 rfl (lv_room (Nat.le_of_ble_eq_true rfl)) d_X_remove_1 ⟨Nat.le_of_ble_eq_true rfl, Nat.le_of_ble_eq_true rfl⟩) (fun q2 u1 H locs pn HW => ?_)
  obtain ⟨pn, eww⟩ := pn
  subst eww
  rcases pn with ⟨er, hnk⟩ | ⟨b, v0, er, hbF, hp, hbk⟩
  · subst er
    refine W.eq (g2 := F0 _ 4 ls [.null]) rfl ?_
    refine lv_ifnonnullN hx hb d_X_remove_4 ?_
    refine lv_bipush (v := -2) hx hb d_X_remove_7 (by decide) ?_
    exact ht_iret hx hb hr hlocks HW ⟨N, F, top, L, hR, ht_fr.rf, Or.inl ⟨rfl, hnk, rfl⟩⟩ d_X_remove_9
  · subst er
    refine W.eq (g2 := F0 _ 4 ls [.ref b]) rfl ?_
    obtain ⟨t, ett⟩ : ∃ t, some t = top := by
      cases top with
      | none => rw [(hT.2.2.1.2 rfl).1] at hbF; cases hbF
      | some t => exact ⟨t, rfl⟩
    subst ett
    have hkv : (k, v0) ∈ L := by rw [← hbk]; exact (hT.2.2.2.1 b hbF v0 hp).2
    have hib : ht_in N b k := (hT.leaf_in hbF hp k).mpr hbk
    have hb256 := (hT.2.2.2.1 b hbF v0 hp).1
    refine lv_ifnonnull (tgt := 10) hx hb d_X_remove_4 (by decide) ?_
    refine lv_aload_n hx hb d_X_remove_10 rfl (lv_at hl 0 rfl) ?_
    refine lv_sipush (v := 256) hx hb d_X_remove_11 (by decide) ?_
    refine ht_cq HW (va_runV (own := R_X) (C := R_X) (As := [.int 256]) (rest := []) ⟨hx, hb, hml, hown, htb⟩ (c_X_stalePath l g w (t := t) hX hK hN hT 256 (Nat.le_refl _) 256 rfl hkv (Nat.le_of_eq (ht_pk k v0).symm)) (cwV 1 htb (ht_gv wd_106 wd_108 sl_2 wd_1 g_X_stalePath) rfl rfl rfl (by decide +kernel) ⟨Nat.le_of_ble_eq_true rfl, Nat.le_of_ble_eq_true rfl⟩) (HW.preV hX rfl _) rfl rfl hl.1 rfl (lv_room (Nat.le_of_ble_eq_true rfl)) d_X_remove_14 ⟨Nat.le_of_ble_eq_true rfl, Nat.le_of_ble_eq_true rfl⟩) (fun q4 u3 H locs ps HW => ?_)
    obtain ⟨N1, be, hN1, hfr1, hmk, hsl⟩ := ps
    rw [← hb256] at hsl
    have ebe := hsl.be hT hbF hib hkv
    subst ebe
    have hX : ht_at u3 (X 0) (.inr (0, [.ref (X 1), .ref (X 2), .ref (X 5), .ref t, .int (nI L.length), .ref (X 6), .ref (X 7), .ref (X 8), .int ei]) : va_E) := hfr1.at hX (hR.out 0 (by decide))
    have hK : ht_at u3 (X 1) (ht_al g 4 (ht_kf k)) := hfr1.at hK (hR.out 1 (by decide))
    rcases q4 with _ | P
    · have etb : be = t := by
        rcases hsl.2.2 with ⟨-, q9⟩ | ⟨c9, z9, q9, -⟩
        · exact (Option.some.inj q9).symm
        · cases q9
      subst etb
      refine W.eq (g2 := F0 _ 17 ls [.null]) rfl ?_
      refine lv_astore_nN (lv' := [(1, .null), (0, .ref (X 0))]) hx hb d_X_remove_17 rfl hl (by decide) rfl (fun ls hl => ?_)
      refine lv_aload_nN hx hb d_X_remove_18 rfl (lv_at hl 0 rfl) ?_
      refine lv_ifnonnullN hx hb d_X_remove_19 ?_
      refine lv_aload_n hx hb d_X_remove_22 rfl (lv_at hl 1 rfl) ?_
      refine lv_null hx hb d_X_remove_23 ?_
      refine ht_put (C := R_X) (T := F_X) (N := 9) (v := .null) (ty := .object "HashTree$Node") hx hb htb i_X t_X t_X_ok n_X hown HW hX rfl 3 (by decide) (htb _ wd_43) (fun _ h9 => h9) rfl (by decide +kernel) rfl rfl (Nat.le_of_ble_eq_true rfl) d_X_remove_24 (fun H locs HW => ?_)
      have n_X_1_X_0 : (X 1) ≠ (X 0) := (Ne.symm n_X_0_X_1)
      obtain ⟨u5, hu5⟩ : ∃ zW : ht_W, zW = ht_up u3 (X 0) (.inr (0, [.ref (X 1), .ref (X 2), .ref (X 5), .null, .int (nI L.length), .ref (X 6), .ref (X 7), .ref (X 8), .int ei]) : va_E) := ⟨_, rfl⟩
      have HW : ht_I g s u5 H locs := by rw [hu5]; exact HW
      have hX : ht_at u5 (X 0) (.inr (0, [.ref (X 1), .ref (X 2), .ref (X 5), .null, .int (nI L.length), .ref (X 6), .ref (X 7), .ref (X 8), .int ei]) : va_E) := by rw [hu5]; exact ht_at_self hX
      have hK : ht_at u5 (X 1) (ht_al g 4 (ht_kf k)) := by rw [hu5]; exact ht_at_ne hK n_X_1_X_0
      refine lv_goto (tgt := 72) hx hb d_X_remove_27 (by decide) ?_
      refine lv_aload_n hx hb d_X_remove_72 rfl (lv_at hl 1 rfl) ?_
      refine lv_dup hx hb d_X_remove_73 rfl ?_
      refine ht_get (C := R_X) (T := F_X) (N := 9) (v := .int (nI L.length)) hx hb htb i_X hown HW hX rfl 4 (by decide) (htb _ wd_44) (fun _ h9 => h9) rfl d_X_remove_74 ?_
      refine lv_iconst (v := 1) hx hb d_X_remove_77 (by decide) ?_
      refine lv_isub hx hb d_X_remove_78 ?_
      refine lv_topi (fun cn ecn => ?_)
      have hX6 := hX
      refine ht_put (C := R_X) (T := F_X) (N := 9) (v := .int cn) (ty := .int) hx hb htb i_X t_X t_X_ok n_X hown HW hX rfl 4 (by decide) (htb _ wd_44) (fun _ h9 => h9) rfl (by decide +kernel) rfl rfl (Nat.le_of_ble_eq_true rfl) d_X_remove_79 (fun H locs HW => ?_)
      obtain ⟨u6, hu6⟩ : ∃ zW : ht_W, zW = ht_up u5 (X 0) (.inr (0, [.ref (X 1), .ref (X 2), .ref (X 5), .null, .int cn, .ref (X 6), .ref (X 7), .ref (X 8), .int ei]) : va_E) := ⟨_, rfl⟩
      have HW : ht_I g s u6 H locs := by rw [hu6]; exact HW
      have hX : ht_at u6 (X 0) (.inr (0, [.ref (X 1), .ref (X 2), .ref (X 5), .null, .int cn, .ref (X 6), .ref (X 7), .ref (X 8), .int ei]) : va_E) := by rw [hu6]; exact ht_at_self hX
      have hK : ht_at u6 (X 1) (ht_al g 4 (ht_kf k)) := by rw [hu6]; exact ht_at_ne hK n_X_1_X_0
      refine lv_iconst (v := 1) hx hb d_X_remove_82 (by decide) ?_
      have hpu := hT.remove1 (N' := N) hp hbk
      have hl1 : L.length = 1 := by
        have h9 := List.length_erase_of_mem hkv
        rw [hpu.2] at h9
        have h8 := List.length_pos_of_mem hkv
        simp at h9
        omega
      have hfrI : ht_fr (fun z9 => z9 ∈ F ∨ z9 = X 0) w u6 := by
        rw [hu6, hu5]
        exact ((hfr1.mono (fun z9 h9 => Or.inl h9)).trans (ht_fr.up (S := fun z9 => z9 ∈ F ∨ z9 = X 0) (Or.inr rfl))).trans (ht_fr.up (S := fun z9 => z9 ∈ F ∨ z9 = X 0) (Or.inr rfl))
      have hS9 : ∀ i9, 1 ≤ i9 → i9 < 9 → ¬ (X i9 ∈ F ∨ X i9 = X 0) := fun i9 h1 hi9 q9 => q9.elim (fun y9 => hR.out i9 hi9 y9) (fun y9 => ht_tne (htg.1 i9 hi9) (htg.1 0 (by decide)) (fun z9 => by injection z9 with z1 z2; omega) y9)
      have hFn : ht_FH dgf N [] none (L.erase (k, v0)) := ⟨fun t9 h9 => (by cases h9), fun a9 h9 => (by cases h9)⟩
      have hRn := hR.re (tg' := tg) (N' := N) (A' := A) (F' := []) (top' := none) (L' := L.erase (k, v0)) hfrI hS9 (by
        rw [hpu.2]
        have e9 : cn = nI 0 := by rw [ecn, hl1]; rfl
        rw [← show cn = nI ([] : ht_L).length from e9]
        exact hX) (fun a9 h9 => by cases h9) hpu.1 hFn ⟨htg.1, fun a9 h9 => by cases h9⟩ (by simp)
      exact ht_iret hx hb hr hlocks HW ⟨N, [], none, _, hRn, hfrI.mono (fun z9 h9 => h9.elim (fun y9 => by rw [(htg.2 z9 y9).1]; decide) (fun y9 => by rw [y9, htg.1 0 (by decide)]; decide)), Or.inr ⟨rfl, v0, hkv, rfl⟩⟩ d_X_remove_83
    · obtain ⟨zp, hPF, hPk, hPlt, hPp, hPc0⟩ : ∃ zp, P ∈ F ∧ ht_in N P k ∧ ht_rl (N P) < ht_rl (N be) ∧ ht_rp (N P) = .inr zp ∧ ht_ch zp (ht_bit k (ht_rl (N P))) = be := by
        rcases hsl.2.2 with ⟨q9, -⟩ | ⟨c9, zc, q9, r1, r2, r3, r4, r5⟩
        · cases q9
        · cases q9
          exact ⟨zc, r1, r2, r3, r4, r5⟩
      have hPc := hN1.br hPF ((hmk.rp P).1.trans hPp)
      rw [(hmk.rp P).2.2.1] at hPc
      have hoF := (hT.half hPF hPp (!ht_bit k (ht_rl (N P)))).1
      refine W.eq (g2 := F0 _ 17 ls [.ref P]) rfl ?_
      refine lv_astore_n (lv' := [(1, .ref P), (0, .ref (X 0))]) hx hb d_X_remove_17 rfl hl (by decide) rfl (fun ls hl => ?_)
      refine lv_aload_n hx hb d_X_remove_18 rfl (lv_at hl 0 rfl) ?_
      refine lv_ifnonnull (tgt := 30) hx hb d_X_remove_19 (by decide) ?_
      refine lv_aload_n hx hb d_X_remove_30 rfl (lv_at hl 0 rfl) ?_
      refine lv_aload_n hx hb d_X_remove_31 rfl (lv_at hl 1 rfl) ?_
      refine ht_get (C := R_X) (T := F_X) (N := 9) (v := .ref (X 1)) hx hb htb i_X hown HW hX rfl 0 (by decide) (htb _ wd_40) (fun _ h9 => h9) rfl d_X_remove_32 ?_
      refine lv_aload_n hx hb d_X_remove_35 rfl (lv_at hl 0 rfl) ?_
      refine ht_get (C := R_B) (T := F_B) (N := 6) (v := .int (nI (ht_rl (N P)))) hx hb htb i_B hown HW hPc rfl 1 (by decide) (htb _ wd_133) (fun x h9 => u_same (htb _ wd_134) x h9) rfl d_X_remove_36 ?_
      refine ht_ci HW (va_runS (own := R_X) (As := [.ref (X 1), .int (nI (ht_rl (N P)))]) (rest := [.ref P]) ⟨hx, hb, hml, hown, htb⟩ (c_X_isOne l g u3 hK (ht_rl (N P)) (by omega) _ rfl) (va_cwS 2 htb (ht_gs wd_88 wd_89 wd_1 g_X_isOne) rfl rfl rfl (by decide +kernel) ⟨Nat.le_of_ble_eq_true rfl, Nat.le_of_ble_eq_true rfl⟩) (HW.preS _) rfl rfl hl.1 rfl (lv_room (Nat.le_of_ble_eq_true rfl)) d_X_remove_39 ⟨Nat.le_of_ble_eq_true rfl, Nat.le_of_ble_eq_true rfl⟩) (fun q8 u7 H locs pu7 HW => ?_)
      obtain ⟨eq8, eu7⟩ := pu7
      subst eu7
      rw [eq8]
      cases hbit : ht_bit k (ht_rl (N P))
      · refine W.eq (g2 := F0 _ 42 ls [.int 0, .ref P]) rfl ?_
        refine lv_if_ne (tgt := 49) hx hb d_X_remove_42 (by decide) (fun c42 => ?_) (fun c42 => ?_)
        · exact absurd rfl c42
        · refine lv_iconst (v := 1) hx hb d_X_remove_45 (by decide) ?_
          refine lv_goto (tgt := 50) hx hb d_X_remove_46 (by decide) ?_
          refine ht_cq HW (va_runV (own := R_X) (C := R_B) (As := [.int 1]) (rest := []) ⟨hx, hb, hml, hown, htb⟩ (c_B_half l g u3 hPc true) (cwV 1 htb (ht_gv wd_91 wd_92 wd_93 wd_8 g_B_half) rfl rfl rfl (by decide +kernel) ⟨Nat.le_of_ble_eq_true rfl, Nat.le_of_ble_eq_true rfl⟩) (HW.preV hPc rfl _) rfl rfl hl.1 rfl (lv_room (Nat.le_of_ble_eq_true rfl)) d_X_remove_50 ⟨Nat.le_of_ble_eq_true rfl, Nat.le_of_ble_eq_true rfl⟩) (fun q10 u9 H locs ph HW => ?_)
          obtain ⟨eh, eww⟩ := ph
          subst eww
          obtain ⟨ot, eot⟩ : ∃ z9, z9 = ht_ch zp (!ht_bit k (ht_rl (N P))) := ⟨_, rfl⟩
          have eot2 : ht_ch (zp.1, zp.2) true = ot := by rw [eot, hbit]; rfl
          rw [eot2] at eh
          subst eh
          refine W.eq (g2 := F0 _ 53 ls [.ref ot]) rfl ?_
          rw [← eot] at hoF
          have hot := (hN1 ot hoF).1
          have n_X_0_ot : X 0 ≠ ot := fun z9 => hR.out 0 (by decide) (by rw [z9]; exact hoF)
          have n_X_1_ot : X 1 ≠ ot := fun z9 => hR.out 1 (by decide) (by rw [z9]; exact hoF)
          have n_P_ot : P ≠ ot := fun z9 => by
            have h9 := (hT.half hPF hPp (!ht_bit k (ht_rl (N P)))).2.2.1
            rw [← eot, ← z9] at h9
            omega
          refine lv_astore_n (lv' := [(2, .ref ot), (1, .ref P), (0, .ref (X 0))]) hx hb d_X_remove_53 rfl hl (by decide) rfl (fun ls hl => ?_)
          refine lv_aload_n hx hb d_X_remove_54 rfl (lv_at hl 0 rfl) ?_
          refine lv_iconst (v := 0) hx hb d_X_remove_55 (by decide) ?_
          refine ht_npt (b := false) hx hb htb hown HW hot (htb _ wd_142) (fun _ h9 => h9) d_X_remove_56 (fun H locs HW => ?_)
          obtain ⟨u11, hu11⟩ : ∃ zW : ht_W, zW = ht_up u3 ot (ht_nc (ht_sf (N1 ot) false) ((A ot).1) ((A ot).2.1) ((A ot).2.2)) := ⟨_, rfl⟩
          have HW : ht_I g s u11 H locs := by rw [hu11]; exact HW
          have hX : ht_at u11 (X 0) (.inr (0, [.ref (X 1), .ref (X 2), .ref (X 5), .ref t, .int (nI L.length), .ref (X 6), .ref (X 7), .ref (X 8), .int ei]) : va_E) := by rw [hu11]; exact ht_at_ne hX n_X_0_ot
          have hK : ht_at u11 (X 1) (ht_al g 4 (ht_kf k)) := by rw [hu11]; exact ht_at_ne hK n_X_1_ot
          have hPc : ht_at u11 P (.inr (3, [.ref (A P).1, .int (nI (ht_rl (N P))), .ref (A P).2.1, .int (ht_b1 (ht_rf (N1 P))), .ref zp.1, .ref zp.2]) : va_E) := by rw [hu11]; exact ht_at_ne hPc n_P_ot
          have hot : ht_at u11 ot (ht_nc (ht_sf (N1 ot) false) ((A ot).1) ((A ot).2.1) ((A ot).2.2)) := by rw [hu11]; exact ht_at_self hot
          obtain ⟨N2, eN2⟩ : ∃ z9 : ht_N, z9 = va_up N1 ot (ht_sf (N1 ot) false) := ⟨_, rfl⟩
          have hN2 : ht_Nd g u11 N2 A F := by rw [hu11, eN2]; exact hN1.sf hoF false
          have c2 : ∀ a, ht_rk (N2 a) = ht_rk (N a) ∧ ht_rl (N2 a) = ht_rl (N a) ∧ ht_rp (N2 a) = ht_rp (N a) := by
            intro a
            rw [eN2]
            by_cases e9 : a = ot
            · rw [e9, va_up_self]
              exact ⟨(hmk.rp ot).2.1, (hmk.rp ot).2.2.1, (hmk.rp ot).1⟩
            · rw [va_up_ne _ _ e9]
              exact ⟨(hmk.rp a).2.1, (hmk.rp a).2.2.1, (hmk.rp a).1⟩
          have hT2 := hT.cg c2
          have hfr2 : ht_fr (fun z9 => z9 ∈ F) w u11 := by rw [hu11]; exact hfr1.trans (ht_fr.up hoF)
          refine lv_aload_n hx hb d_X_remove_59 rfl (lv_at hl 2 rfl) ?_
          refine lv_aload_n hx hb d_X_remove_60 rfl (lv_at hl 2 rfl) ?_
          refine lv_aload_n hx hb d_X_remove_61 rfl (lv_at hl 1 rfl) ?_
          refine ht_get (C := R_B) (T := F_B) (N := 6) (v := .int (nI (ht_rl (N P)))) hx hb htb i_B hown HW hPc rfl 1 (by decide) (htb _ wd_133) (fun x h9 => u_same (htb _ wd_134) x h9) rfl d_X_remove_62 ?_
          refine ht_cq HW (va_runV (own := R_X) (C := R_X) (As := [.int (nI (ht_rl (N P)))]) (rest := [.ref (X 0)]) ⟨hx, hb, hml, hown, htb⟩ (c_X_stalePath l g u11 (t := t) hX hK hN2 hT2 (ht_rl (N P)) (by omega) _ rfl hkv (by rw [ht_pk k v0]; omega)) (cwV 1 htb (ht_gv wd_106 wd_108 sl_2 wd_1 g_X_stalePath) rfl rfl rfl (by decide +kernel) ⟨Nat.le_of_ble_eq_true rfl, Nat.le_of_ble_eq_true rfl⟩) (HW.preV hX rfl _) rfl rfl hl.1 rfl (lv_room (Nat.le_of_ble_eq_true rfl)) d_X_remove_65 ⟨Nat.le_of_ble_eq_true rfl, Nat.le_of_ble_eq_true rfl⟩) (fun q13 u12 H locs ps3 HW => ?_)
          obtain ⟨N3, be3, hN3, hfr3, hmk3, hsl3⟩ := ps3
          rw [← (c2 P).2.1] at hsl3
          have ebe3 := hsl3.be hT2 hPF ((ht_in_cg c2 P k).mpr hPk) hkv
          subst ebe3
          have c3 : ∀ a, ht_rk (N3 a) = ht_rk (N a) ∧ ht_rl (N3 a) = ht_rl (N a) ∧ ht_rp (N3 a) = ht_rp (N a) := fun a => ⟨(hmk3.rp a).2.1.trans (c2 a).1, (hmk3.rp a).2.2.1.trans (c2 a).2.1, (hmk3.rp a).1.trans (c2 a).2.2⟩
          have hX : ht_at u12 (X 0) (.inr (0, [.ref (X 1), .ref (X 2), .ref (X 5), .ref t, .int (nI L.length), .ref (X 6), .ref (X 7), .ref (X 8), .int ei]) : va_E) := hfr3.at hX (hR.out 0 (by decide))
          have hK : ht_at u12 (X 1) (ht_al g 4 (ht_kf k)) := hfr3.at hK (hR.out 1 (by decide))
          rcases q13 with _ | ab
          · have etb : t = be3 := by
              rcases hsl3.2.2 with ⟨-, q9⟩ | ⟨c9, z9, q9, -⟩
              · exact Option.some.inj q9
              · cases q9
            refine W.eq (g2 := F0 _ 68 ls [.null, .ref (X 0)]) rfl ?_
            refine lv_aload_n hx hb d_X_remove_68 rfl (lv_at hl 0 rfl) ?_
            have hX5 := hX
            refine ht_cv HW (va_runV (own := R_X) (C := R_X) (As := [.null, .ref ot]) (rest := []) ⟨hx, hb, hml, hown, htb⟩ (c_X_hang_N l g u12 (top := some t) hX ot) (cwV 2 htb (ht_gv wd_178 wd_180 sl_4 wd_1 g_X_hang) rfl rfl rfl (by decide +kernel) ⟨Nat.le_of_ble_eq_true rfl, Nat.le_of_ble_eq_true rfl⟩) (HW.preV hX rfl _) rfl rfl hl.1 rfl (lv_room (Nat.le_of_ble_eq_true rfl)) d_X_remove_69 ⟨Nat.le_of_ble_eq_true rfl, Nat.le_of_ble_eq_true rfl⟩) (fun u14 H locs ph5 HW => ?_)
            have hX : ht_at u14 (X 0) (.inr (0, [.ref (X 1), .ref (X 2), .ref (X 5), .ref ot, .int (nI L.length), .ref (X 6), .ref (X 7), .ref (X 8), .int ei]) : va_E) := by rw [ph5]; exact ht_at_self hX
            have hNf : ht_Nd g u14 N3 A F := by rw [ph5]; exact hN3.upo hX5 (hR.out 0 (by decide))
            refine lv_aload_n hx hb d_X_remove_72 rfl (lv_at hl 2 rfl) ?_
            refine lv_dup hx hb d_X_remove_73 rfl ?_
            refine ht_get (C := R_X) (T := F_X) (N := 9) (v := .int (nI L.length)) hx hb htb i_X hown HW hX rfl 4 (by decide) (htb _ wd_44) (fun _ h9 => h9) rfl d_X_remove_74 ?_
            refine lv_iconst (v := 1) hx hb d_X_remove_77 (by decide) ?_
            refine lv_isub hx hb d_X_remove_78 ?_
            refine lv_topi (fun cn ecn => ?_)
            have hX6 := hX
            refine ht_put (C := R_X) (T := F_X) (N := 9) (v := .int cn) (ty := .int) hx hb htb i_X t_X t_X_ok n_X hown HW hX rfl 4 (by decide) (htb _ wd_44) (fun _ h9 => h9) rfl (by decide +kernel) rfl rfl (Nat.le_of_ble_eq_true rfl) d_X_remove_79 (fun H locs HW => ?_)
            obtain ⟨u15, hu15⟩ : ∃ zW : ht_W, zW = ht_up u14 (X 0) (.inr (0, [.ref (X 1), .ref (X 2), .ref (X 5), .ref ot, .int cn, .ref (X 6), .ref (X 7), .ref (X 8), .int ei]) : va_E) := ⟨_, rfl⟩
            have HW : ht_I g s u15 H locs := by rw [hu15]; exact HW
            have hX : ht_at u15 (X 0) (.inr (0, [.ref (X 1), .ref (X 2), .ref (X 5), .ref ot, .int cn, .ref (X 6), .ref (X 7), .ref (X 8), .int ei]) : va_E) := by rw [hu15]; exact ht_at_self hX
            refine lv_iconst (v := 1) hx hb d_X_remove_82 (by decide) ?_
            have hpu := ht_rem_pure (ab := none) (N' := N3) hT hF hbF hp hbk hPF hPp hPc0 eot.symm (Or.inl ⟨rfl, by rw [etb]⟩) hmk eN2 hmk3 (fun a => ⟨rfl, rfl, rfl, rfl⟩) (fun a _ => rfl) (fun a zo q9 => by cases q9)
            rw [if_pos rfl] at hpu
            have hfrI : ht_fr (fun z9 => z9 ∈ F ∨ z9 = X 0) w u15 := by
              rw [hu15, ph5]
              exact (((hfr2.trans hfr3).mono (fun z9 h9 => Or.inl h9)).trans (ht_fr.up (S := fun z9 => z9 ∈ F ∨ z9 = X 0) (Or.inr rfl))).trans (ht_fr.up (S := fun z9 => z9 ∈ F ∨ z9 = X 0) (Or.inr rfl))
            have hS9 : ∀ i9, 1 ≤ i9 → i9 < 9 → ¬ (X i9 ∈ F ∨ X i9 = X 0) := fun i9 h1 hi9 q9 => q9.elim (fun y9 => hR.out i9 hi9 y9) (fun y9 => ht_tne (htg.1 i9 hi9) (htg.1 0 (by decide)) (fun z9 => by injection z9 with z1 z2; omega) y9)
            have h8 := List.length_pos_of_mem hkv
            have hle := List.length_erase_of_mem hkv
            have ecn2 : cn = nI (L.erase (k, v0)).length := by
              rw [hle, ecn]
              exact ht_sb (b := 1) rfl rfl (by omega)
            have nPb : be3 ≠ be := fun z9 => by rw [z9] at hPlt; omega
            have hlF : ((F.erase be).erase be3).length ≤ 2 * (L.erase (k, v0)).length := by
              rw [List.length_erase_of_mem ((List.mem_erase_of_ne nPb).mpr hPF), List.length_erase_of_mem hbF, hle]
              omega
            have hNg : ht_Nd g u15 N3 A ((F.erase be).erase be3) := by
              rw [hu15]
              exact (hNf.upo hX6 (hR.out 0 (by decide))).sub ht_er_sub
            have htgn : ht_tgs tg X N3 A ((F.erase be).erase be3) := ⟨htg.1, fun a9 h9 => ⟨(htg.2 a9 (ht_er_sub a9 h9)).1, (htg.2 a9 (ht_er_sub a9 h9)).2.1, (htg.2 a9 (ht_er_sub a9 h9)).2.2.1, fun v9 hv9 => (htg.2 a9 (ht_er_sub a9 h9)).2.2.2 v9 (by
              exact (c3 a9).2.2.symm.trans hv9)⟩⟩
            have hRn := hR.re (tg' := tg) (L' := L.erase (k, v0)) hfrI hS9 (by rw [← ecn2]; exact hX) hNg hpu.1 hpu.2 htgn hlF
            exact ht_iret hx hb hr hlocks HW ⟨_, _, _, _, hRn, hfrI.mono (fun z9 h9 => h9.elim (fun y9 => by rw [(htg.2 z9 y9).1]; decide) (fun y9 => by rw [y9, htg.1 0 (by decide)]; decide)), Or.inr ⟨rfl, v0, hkv, rfl⟩⟩ d_X_remove_83
          · obtain ⟨zc, habF, hablt, habp, habc⟩ : ∃ zc, ab ∈ F ∧ ht_rl (N ab) < ht_rl (N be3) ∧ ht_rp (N ab) = .inr zc ∧ ht_ch zc (ht_bit k (ht_rl (N ab))) = be3 := by
              rcases hsl3.2.2 with ⟨q9, -⟩ | ⟨c9, zc, q9, r1, r2, r3, r4, r5⟩
              · cases q9
              · cases q9
                rw [(c2 ab).2.1, (c2 be3).2.1] at r3
                rw [(c2 ab).2.2] at r4
                rw [(c2 ab).2.1] at r5
                exact ⟨zc, r1, r3, r4, r5⟩
            have hab := hN3.br habF ((c3 ab).2.2.trans habp)
            rw [(c3 ab).2.1] at hab
            have n_X_0_ab : X 0 ≠ ab := fun z9 => hR.out 0 (by decide) (by rw [z9]; exact habF)
            refine W.eq (g2 := F0 _ 68 ls [.ref ab, .ref (X 0)]) rfl ?_
            refine lv_aload_n hx hb d_X_remove_68 rfl (lv_at hl 0 rfl) ?_
            have hX5 := hX
            refine ht_cv HW (va_runV (own := R_X) (C := R_X) (As := [.ref ab, .ref ot]) (rest := []) ⟨hx, hb, hml, hown, htb⟩ (c_X_hang_S l g u12 (top := some t) hX hK (by omega) hab ot) (cwV 2 htb (ht_gv wd_178 wd_180 sl_4 wd_1 g_X_hang) rfl rfl rfl (by decide +kernel) ⟨Nat.le_of_ble_eq_true rfl, Nat.le_of_ble_eq_true rfl⟩) (HW.preV hX rfl _) rfl rfl hl.1 rfl (lv_room (Nat.le_of_ble_eq_true rfl)) d_X_remove_69 ⟨Nat.le_of_ble_eq_true rfl, Nat.le_of_ble_eq_true rfl⟩) (fun u16 H locs ph5 HW => ?_)
            have hX : ht_at u16 (X 0) (.inr (0, [.ref (X 1), .ref (X 2), .ref (X 5), .ref t, .int (nI L.length), .ref (X 6), .ref (X 7), .ref (X 8), .int ei]) : va_E) := by rw [ph5]; exact ht_at_ne hX n_X_0_ab
            have hNf : ht_Nd g u16 (va_up N3 ab (ht_spy (N3 ab) (.inr (ht_zo (zc.1, zc.2) (ht_bit k (ht_rl (N ab))) ot)))) A F := by
              have h9 := hN3.sp (zo' := ht_zo (zc.1, zc.2) (ht_bit k (ht_rl (N ab))) ot) habF (zo := zc) ((c3 ab).2.2.trans habp)
              rw [(c3 ab).2.1] at h9
              rw [ph5]
              exact h9
            refine lv_aload_n hx hb d_X_remove_72 rfl (lv_at hl 2 rfl) ?_
            refine lv_dup hx hb d_X_remove_73 rfl ?_
            refine ht_get (C := R_X) (T := F_X) (N := 9) (v := .int (nI L.length)) hx hb htb i_X hown HW hX rfl 4 (by decide) (htb _ wd_44) (fun _ h9 => h9) rfl d_X_remove_74 ?_
            refine lv_iconst (v := 1) hx hb d_X_remove_77 (by decide) ?_
            refine lv_isub hx hb d_X_remove_78 ?_
            refine lv_topi (fun cn ecn => ?_)
            have hX6 := hX
            refine ht_put (C := R_X) (T := F_X) (N := 9) (v := .int cn) (ty := .int) hx hb htb i_X t_X t_X_ok n_X hown HW hX rfl 4 (by decide) (htb _ wd_44) (fun _ h9 => h9) rfl (by decide +kernel) rfl rfl (Nat.le_of_ble_eq_true rfl) d_X_remove_79 (fun H locs HW => ?_)
            obtain ⟨u17, hu17⟩ : ∃ zW : ht_W, zW = ht_up u16 (X 0) (.inr (0, [.ref (X 1), .ref (X 2), .ref (X 5), .ref t, .int cn, .ref (X 6), .ref (X 7), .ref (X 8), .int ei]) : va_E) := ⟨_, rfl⟩
            have HW : ht_I g s u17 H locs := by rw [hu17]; exact HW
            have hX : ht_at u17 (X 0) (.inr (0, [.ref (X 1), .ref (X 2), .ref (X 5), .ref t, .int cn, .ref (X 6), .ref (X 7), .ref (X 8), .int ei]) : va_E) := by rw [hu17]; exact ht_at_self hX
            refine lv_iconst (v := 1) hx hb d_X_remove_82 (by decide) ?_
            have hpu := ht_rem_pure (ab := some ab) (N' := (va_up N3 ab (ht_spy (N3 ab) (.inr (ht_zo (zc.1, zc.2) (ht_bit k (ht_rl (N ab))) ot))))) hT hF hbF hp hbk hPF hPp hPc0 eot.symm (Or.inr ⟨ab, zc, rfl, habF, habp, habc⟩) hmk eN2 hmk3 (fun a => by
              by_cases e9 : a = ab
              · rw [e9, va_up_self]
                exact ⟨rfl, rfl, rfl, rfl⟩
              · rw [va_up_ne _ _ e9]
                exact ⟨rfl, rfl, rfl, rfl⟩) (fun a q9 => by rw [va_up_ne _ _ (fun z9 => q9 (by rw [z9]))]) (fun a zo q9 hz9 => by
              cases q9
              rw [va_up_self]
              rw [habp] at hz9
              cases hz9
              rfl)
            rw [if_neg (fun z9 => by cases z9)] at hpu
            have hfrI : ht_fr (fun z9 => z9 ∈ F ∨ z9 = X 0) w u17 := by
              rw [hu17, ph5]
              exact (((hfr2.trans hfr3).mono (fun z9 h9 => Or.inl h9)).trans (ht_fr.up (S := fun z9 => z9 ∈ F ∨ z9 = X 0) (Or.inl habF))).trans (ht_fr.up (S := fun z9 => z9 ∈ F ∨ z9 = X 0) (Or.inr rfl))
            have hS9 : ∀ i9, 1 ≤ i9 → i9 < 9 → ¬ (X i9 ∈ F ∨ X i9 = X 0) := fun i9 h1 hi9 q9 => q9.elim (fun y9 => hR.out i9 hi9 y9) (fun y9 => ht_tne (htg.1 i9 hi9) (htg.1 0 (by decide)) (fun z9 => by injection z9 with z1 z2; omega) y9)
            have h8 := List.length_pos_of_mem hkv
            have hle := List.length_erase_of_mem hkv
            have ecn2 : cn = nI (L.erase (k, v0)).length := by
              rw [hle, ecn]
              exact ht_sb (b := 1) rfl rfl (by omega)
            have nPb : be3 ≠ be := fun z9 => by rw [z9] at hPlt; omega
            have hlF : ((F.erase be).erase be3).length ≤ 2 * (L.erase (k, v0)).length := by
              rw [List.length_erase_of_mem ((List.mem_erase_of_ne nPb).mpr hPF), List.length_erase_of_mem hbF, hle]
              omega
            have hNg : ht_Nd g u17 (va_up N3 ab (ht_spy (N3 ab) (.inr (ht_zo (zc.1, zc.2) (ht_bit k (ht_rl (N ab))) ot)))) A ((F.erase be).erase be3) := by
              rw [hu17]
              exact (hNf.upo hX6 (hR.out 0 (by decide))).sub ht_er_sub
            have htgn : ht_tgs tg X (va_up N3 ab (ht_spy (N3 ab) (.inr (ht_zo (zc.1, zc.2) (ht_bit k (ht_rl (N ab))) ot)))) A ((F.erase be).erase be3) := ⟨htg.1, fun a9 h9 => ⟨(htg.2 a9 (ht_er_sub a9 h9)).1, (htg.2 a9 (ht_er_sub a9 h9)).2.1, (htg.2 a9 (ht_er_sub a9 h9)).2.2.1, fun v9 hv9 => (htg.2 a9 (ht_er_sub a9 h9)).2.2.2 v9 (by
              by_cases e9 : a9 = ab
              · rw [e9, va_up_self] at hv9
                cases hv9
              · rw [va_up_ne _ _ e9] at hv9
                exact (c3 a9).2.2.symm.trans hv9)⟩⟩
            have hRn := hR.re (tg' := tg) (L' := L.erase (k, v0)) hfrI hS9 (by rw [← ecn2]; exact hX) hNg hpu.1 hpu.2 htgn hlF
            exact ht_iret hx hb hr hlocks HW ⟨_, _, _, _, hRn, hfrI.mono (fun z9 h9 => h9.elim (fun y9 => by rw [(htg.2 z9 y9).1]; decide) (fun y9 => by rw [y9, htg.1 0 (by decide)]; decide)), Or.inr ⟨rfl, v0, hkv, rfl⟩⟩ d_X_remove_83
      · refine W.eq (g2 := F0 _ 42 ls [.int 1, .ref P]) rfl ?_
        refine lv_if_ne (tgt := 49) hx hb d_X_remove_42 (by decide) (fun c42 => ?_) (fun c42 => ?_)
        · refine lv_iconst (v := 0) hx hb d_X_remove_49 (by decide) ?_
          refine ht_cq HW (va_runV (own := R_X) (C := R_B) (As := [.int 0]) (rest := []) ⟨hx, hb, hml, hown, htb⟩ (c_B_half l g u3 hPc false) (cwV 1 htb (ht_gv wd_91 wd_92 wd_93 wd_8 g_B_half) rfl rfl rfl (by decide +kernel) ⟨Nat.le_of_ble_eq_true rfl, Nat.le_of_ble_eq_true rfl⟩) (HW.preV hPc rfl _) rfl rfl hl.1 rfl (lv_room (Nat.le_of_ble_eq_true rfl)) d_X_remove_50 ⟨Nat.le_of_ble_eq_true rfl, Nat.le_of_ble_eq_true rfl⟩) (fun q19 u18 H locs ph HW => ?_)
          obtain ⟨eh, eww⟩ := ph
          subst eww
          obtain ⟨ot, eot⟩ : ∃ z9, z9 = ht_ch zp (!ht_bit k (ht_rl (N P))) := ⟨_, rfl⟩
          have eot2 : ht_ch (zp.1, zp.2) false = ot := by rw [eot, hbit]; rfl
          rw [eot2] at eh
          subst eh
          refine W.eq (g2 := F0 _ 53 ls [.ref ot]) rfl ?_
          rw [← eot] at hoF
          have hot := (hN1 ot hoF).1
          have n_X_0_ot : X 0 ≠ ot := fun z9 => hR.out 0 (by decide) (by rw [z9]; exact hoF)
          have n_X_1_ot : X 1 ≠ ot := fun z9 => hR.out 1 (by decide) (by rw [z9]; exact hoF)
          have n_P_ot : P ≠ ot := fun z9 => by
            have h9 := (hT.half hPF hPp (!ht_bit k (ht_rl (N P)))).2.2.1
            rw [← eot, ← z9] at h9
            omega
          refine lv_astore_n (lv' := [(2, .ref ot), (1, .ref P), (0, .ref (X 0))]) hx hb d_X_remove_53 rfl hl (by decide) rfl (fun ls hl => ?_)
          refine lv_aload_n hx hb d_X_remove_54 rfl (lv_at hl 0 rfl) ?_
          refine lv_iconst (v := 0) hx hb d_X_remove_55 (by decide) ?_
          refine ht_npt (b := false) hx hb htb hown HW hot (htb _ wd_142) (fun _ h9 => h9) d_X_remove_56 (fun H locs HW => ?_)
          obtain ⟨u20, hu20⟩ : ∃ zW : ht_W, zW = ht_up u3 ot (ht_nc (ht_sf (N1 ot) false) ((A ot).1) ((A ot).2.1) ((A ot).2.2)) := ⟨_, rfl⟩
          have HW : ht_I g s u20 H locs := by rw [hu20]; exact HW
          have hX : ht_at u20 (X 0) (.inr (0, [.ref (X 1), .ref (X 2), .ref (X 5), .ref t, .int (nI L.length), .ref (X 6), .ref (X 7), .ref (X 8), .int ei]) : va_E) := by rw [hu20]; exact ht_at_ne hX n_X_0_ot
          have hK : ht_at u20 (X 1) (ht_al g 4 (ht_kf k)) := by rw [hu20]; exact ht_at_ne hK n_X_1_ot
          have hPc : ht_at u20 P (.inr (3, [.ref (A P).1, .int (nI (ht_rl (N P))), .ref (A P).2.1, .int (ht_b1 (ht_rf (N1 P))), .ref zp.1, .ref zp.2]) : va_E) := by rw [hu20]; exact ht_at_ne hPc n_P_ot
          have hot : ht_at u20 ot (ht_nc (ht_sf (N1 ot) false) ((A ot).1) ((A ot).2.1) ((A ot).2.2)) := by rw [hu20]; exact ht_at_self hot
          obtain ⟨N2, eN2⟩ : ∃ z9 : ht_N, z9 = va_up N1 ot (ht_sf (N1 ot) false) := ⟨_, rfl⟩
          have hN2 : ht_Nd g u20 N2 A F := by rw [hu20, eN2]; exact hN1.sf hoF false
          have c2 : ∀ a, ht_rk (N2 a) = ht_rk (N a) ∧ ht_rl (N2 a) = ht_rl (N a) ∧ ht_rp (N2 a) = ht_rp (N a) := by
            intro a
            rw [eN2]
            by_cases e9 : a = ot
            · rw [e9, va_up_self]
              exact ⟨(hmk.rp ot).2.1, (hmk.rp ot).2.2.1, (hmk.rp ot).1⟩
            · rw [va_up_ne _ _ e9]
              exact ⟨(hmk.rp a).2.1, (hmk.rp a).2.2.1, (hmk.rp a).1⟩
          have hT2 := hT.cg c2
          have hfr2 : ht_fr (fun z9 => z9 ∈ F) w u20 := by rw [hu20]; exact hfr1.trans (ht_fr.up hoF)
          refine lv_aload_n hx hb d_X_remove_59 rfl (lv_at hl 2 rfl) ?_
          refine lv_aload_n hx hb d_X_remove_60 rfl (lv_at hl 2 rfl) ?_
          refine lv_aload_n hx hb d_X_remove_61 rfl (lv_at hl 1 rfl) ?_
          refine ht_get (C := R_B) (T := F_B) (N := 6) (v := .int (nI (ht_rl (N P)))) hx hb htb i_B hown HW hPc rfl 1 (by decide) (htb _ wd_133) (fun x h9 => u_same (htb _ wd_134) x h9) rfl d_X_remove_62 ?_
          refine ht_cq HW (va_runV (own := R_X) (C := R_X) (As := [.int (nI (ht_rl (N P)))]) (rest := [.ref (X 0)]) ⟨hx, hb, hml, hown, htb⟩ (c_X_stalePath l g u20 (t := t) hX hK hN2 hT2 (ht_rl (N P)) (by omega) _ rfl hkv (by rw [ht_pk k v0]; omega)) (cwV 1 htb (ht_gv wd_106 wd_108 sl_2 wd_1 g_X_stalePath) rfl rfl rfl (by decide +kernel) ⟨Nat.le_of_ble_eq_true rfl, Nat.le_of_ble_eq_true rfl⟩) (HW.preV hX rfl _) rfl rfl hl.1 rfl (lv_room (Nat.le_of_ble_eq_true rfl)) d_X_remove_65 ⟨Nat.le_of_ble_eq_true rfl, Nat.le_of_ble_eq_true rfl⟩) (fun q22 u21 H locs ps3 HW => ?_)
          obtain ⟨N3, be3, hN3, hfr3, hmk3, hsl3⟩ := ps3
          rw [← (c2 P).2.1] at hsl3
          have ebe3 := hsl3.be hT2 hPF ((ht_in_cg c2 P k).mpr hPk) hkv
          subst ebe3
          have c3 : ∀ a, ht_rk (N3 a) = ht_rk (N a) ∧ ht_rl (N3 a) = ht_rl (N a) ∧ ht_rp (N3 a) = ht_rp (N a) := fun a => ⟨(hmk3.rp a).2.1.trans (c2 a).1, (hmk3.rp a).2.2.1.trans (c2 a).2.1, (hmk3.rp a).1.trans (c2 a).2.2⟩
          have hX : ht_at u21 (X 0) (.inr (0, [.ref (X 1), .ref (X 2), .ref (X 5), .ref t, .int (nI L.length), .ref (X 6), .ref (X 7), .ref (X 8), .int ei]) : va_E) := hfr3.at hX (hR.out 0 (by decide))
          have hK : ht_at u21 (X 1) (ht_al g 4 (ht_kf k)) := hfr3.at hK (hR.out 1 (by decide))
          rcases q22 with _ | ab
          · have etb : t = be3 := by
              rcases hsl3.2.2 with ⟨-, q9⟩ | ⟨c9, z9, q9, -⟩
              · exact Option.some.inj q9
              · cases q9
            refine W.eq (g2 := F0 _ 68 ls [.null, .ref (X 0)]) rfl ?_
            refine lv_aload_n hx hb d_X_remove_68 rfl (lv_at hl 0 rfl) ?_
            have hX5 := hX
            refine ht_cv HW (va_runV (own := R_X) (C := R_X) (As := [.null, .ref ot]) (rest := []) ⟨hx, hb, hml, hown, htb⟩ (c_X_hang_N l g u21 (top := some t) hX ot) (cwV 2 htb (ht_gv wd_178 wd_180 sl_4 wd_1 g_X_hang) rfl rfl rfl (by decide +kernel) ⟨Nat.le_of_ble_eq_true rfl, Nat.le_of_ble_eq_true rfl⟩) (HW.preV hX rfl _) rfl rfl hl.1 rfl (lv_room (Nat.le_of_ble_eq_true rfl)) d_X_remove_69 ⟨Nat.le_of_ble_eq_true rfl, Nat.le_of_ble_eq_true rfl⟩) (fun u23 H locs ph5 HW => ?_)
            have hX : ht_at u23 (X 0) (.inr (0, [.ref (X 1), .ref (X 2), .ref (X 5), .ref ot, .int (nI L.length), .ref (X 6), .ref (X 7), .ref (X 8), .int ei]) : va_E) := by rw [ph5]; exact ht_at_self hX
            have hNf : ht_Nd g u23 N3 A F := by rw [ph5]; exact hN3.upo hX5 (hR.out 0 (by decide))
            refine lv_aload_n hx hb d_X_remove_72 rfl (lv_at hl 2 rfl) ?_
            refine lv_dup hx hb d_X_remove_73 rfl ?_
            refine ht_get (C := R_X) (T := F_X) (N := 9) (v := .int (nI L.length)) hx hb htb i_X hown HW hX rfl 4 (by decide) (htb _ wd_44) (fun _ h9 => h9) rfl d_X_remove_74 ?_
            refine lv_iconst (v := 1) hx hb d_X_remove_77 (by decide) ?_
            refine lv_isub hx hb d_X_remove_78 ?_
            refine lv_topi (fun cn ecn => ?_)
            have hX6 := hX
            refine ht_put (C := R_X) (T := F_X) (N := 9) (v := .int cn) (ty := .int) hx hb htb i_X t_X t_X_ok n_X hown HW hX rfl 4 (by decide) (htb _ wd_44) (fun _ h9 => h9) rfl (by decide +kernel) rfl rfl (Nat.le_of_ble_eq_true rfl) d_X_remove_79 (fun H locs HW => ?_)
            obtain ⟨u24, hu24⟩ : ∃ zW : ht_W, zW = ht_up u23 (X 0) (.inr (0, [.ref (X 1), .ref (X 2), .ref (X 5), .ref ot, .int cn, .ref (X 6), .ref (X 7), .ref (X 8), .int ei]) : va_E) := ⟨_, rfl⟩
            have HW : ht_I g s u24 H locs := by rw [hu24]; exact HW
            have hX : ht_at u24 (X 0) (.inr (0, [.ref (X 1), .ref (X 2), .ref (X 5), .ref ot, .int cn, .ref (X 6), .ref (X 7), .ref (X 8), .int ei]) : va_E) := by rw [hu24]; exact ht_at_self hX
            refine lv_iconst (v := 1) hx hb d_X_remove_82 (by decide) ?_
            have hpu := ht_rem_pure (ab := none) (N' := N3) hT hF hbF hp hbk hPF hPp hPc0 eot.symm (Or.inl ⟨rfl, by rw [etb]⟩) hmk eN2 hmk3 (fun a => ⟨rfl, rfl, rfl, rfl⟩) (fun a _ => rfl) (fun a zo q9 => by cases q9)
            rw [if_pos rfl] at hpu
            have hfrI : ht_fr (fun z9 => z9 ∈ F ∨ z9 = X 0) w u24 := by
              rw [hu24, ph5]
              exact (((hfr2.trans hfr3).mono (fun z9 h9 => Or.inl h9)).trans (ht_fr.up (S := fun z9 => z9 ∈ F ∨ z9 = X 0) (Or.inr rfl))).trans (ht_fr.up (S := fun z9 => z9 ∈ F ∨ z9 = X 0) (Or.inr rfl))
            have hS9 : ∀ i9, 1 ≤ i9 → i9 < 9 → ¬ (X i9 ∈ F ∨ X i9 = X 0) := fun i9 h1 hi9 q9 => q9.elim (fun y9 => hR.out i9 hi9 y9) (fun y9 => ht_tne (htg.1 i9 hi9) (htg.1 0 (by decide)) (fun z9 => by injection z9 with z1 z2; omega) y9)
            have h8 := List.length_pos_of_mem hkv
            have hle := List.length_erase_of_mem hkv
            have ecn2 : cn = nI (L.erase (k, v0)).length := by
              rw [hle, ecn]
              exact ht_sb (b := 1) rfl rfl (by omega)
            have nPb : be3 ≠ be := fun z9 => by rw [z9] at hPlt; omega
            have hlF : ((F.erase be).erase be3).length ≤ 2 * (L.erase (k, v0)).length := by
              rw [List.length_erase_of_mem ((List.mem_erase_of_ne nPb).mpr hPF), List.length_erase_of_mem hbF, hle]
              omega
            have hNg : ht_Nd g u24 N3 A ((F.erase be).erase be3) := by
              rw [hu24]
              exact (hNf.upo hX6 (hR.out 0 (by decide))).sub ht_er_sub
            have htgn : ht_tgs tg X N3 A ((F.erase be).erase be3) := ⟨htg.1, fun a9 h9 => ⟨(htg.2 a9 (ht_er_sub a9 h9)).1, (htg.2 a9 (ht_er_sub a9 h9)).2.1, (htg.2 a9 (ht_er_sub a9 h9)).2.2.1, fun v9 hv9 => (htg.2 a9 (ht_er_sub a9 h9)).2.2.2 v9 (by
              exact (c3 a9).2.2.symm.trans hv9)⟩⟩
            have hRn := hR.re (tg' := tg) (L' := L.erase (k, v0)) hfrI hS9 (by rw [← ecn2]; exact hX) hNg hpu.1 hpu.2 htgn hlF
            exact ht_iret hx hb hr hlocks HW ⟨_, _, _, _, hRn, hfrI.mono (fun z9 h9 => h9.elim (fun y9 => by rw [(htg.2 z9 y9).1]; decide) (fun y9 => by rw [y9, htg.1 0 (by decide)]; decide)), Or.inr ⟨rfl, v0, hkv, rfl⟩⟩ d_X_remove_83
          · obtain ⟨zc, habF, hablt, habp, habc⟩ : ∃ zc, ab ∈ F ∧ ht_rl (N ab) < ht_rl (N be3) ∧ ht_rp (N ab) = .inr zc ∧ ht_ch zc (ht_bit k (ht_rl (N ab))) = be3 := by
              rcases hsl3.2.2 with ⟨q9, -⟩ | ⟨c9, zc, q9, r1, r2, r3, r4, r5⟩
              · cases q9
              · cases q9
                rw [(c2 ab).2.1, (c2 be3).2.1] at r3
                rw [(c2 ab).2.2] at r4
                rw [(c2 ab).2.1] at r5
                exact ⟨zc, r1, r3, r4, r5⟩
            have hab := hN3.br habF ((c3 ab).2.2.trans habp)
            rw [(c3 ab).2.1] at hab
            have n_X_0_ab : X 0 ≠ ab := fun z9 => hR.out 0 (by decide) (by rw [z9]; exact habF)
            refine W.eq (g2 := F0 _ 68 ls [.ref ab, .ref (X 0)]) rfl ?_
            refine lv_aload_n hx hb d_X_remove_68 rfl (lv_at hl 0 rfl) ?_
            have hX5 := hX
            refine ht_cv HW (va_runV (own := R_X) (C := R_X) (As := [.ref ab, .ref ot]) (rest := []) ⟨hx, hb, hml, hown, htb⟩ (c_X_hang_S l g u21 (top := some t) hX hK (by omega) hab ot) (cwV 2 htb (ht_gv wd_178 wd_180 sl_4 wd_1 g_X_hang) rfl rfl rfl (by decide +kernel) ⟨Nat.le_of_ble_eq_true rfl, Nat.le_of_ble_eq_true rfl⟩) (HW.preV hX rfl _) rfl rfl hl.1 rfl (lv_room (Nat.le_of_ble_eq_true rfl)) d_X_remove_69 ⟨Nat.le_of_ble_eq_true rfl, Nat.le_of_ble_eq_true rfl⟩) (fun u25 H locs ph5 HW => ?_)
            have hX : ht_at u25 (X 0) (.inr (0, [.ref (X 1), .ref (X 2), .ref (X 5), .ref t, .int (nI L.length), .ref (X 6), .ref (X 7), .ref (X 8), .int ei]) : va_E) := by rw [ph5]; exact ht_at_ne hX n_X_0_ab
            have hNf : ht_Nd g u25 (va_up N3 ab (ht_spy (N3 ab) (.inr (ht_zo (zc.1, zc.2) (ht_bit k (ht_rl (N ab))) ot)))) A F := by
              have h9 := hN3.sp (zo' := ht_zo (zc.1, zc.2) (ht_bit k (ht_rl (N ab))) ot) habF (zo := zc) ((c3 ab).2.2.trans habp)
              rw [(c3 ab).2.1] at h9
              rw [ph5]
              exact h9
            refine lv_aload_n hx hb d_X_remove_72 rfl (lv_at hl 2 rfl) ?_
            refine lv_dup hx hb d_X_remove_73 rfl ?_
            refine ht_get (C := R_X) (T := F_X) (N := 9) (v := .int (nI L.length)) hx hb htb i_X hown HW hX rfl 4 (by decide) (htb _ wd_44) (fun _ h9 => h9) rfl d_X_remove_74 ?_
            refine lv_iconst (v := 1) hx hb d_X_remove_77 (by decide) ?_
            refine lv_isub hx hb d_X_remove_78 ?_
            refine lv_topi (fun cn ecn => ?_)
            have hX6 := hX
            refine ht_put (C := R_X) (T := F_X) (N := 9) (v := .int cn) (ty := .int) hx hb htb i_X t_X t_X_ok n_X hown HW hX rfl 4 (by decide) (htb _ wd_44) (fun _ h9 => h9) rfl (by decide +kernel) rfl rfl (Nat.le_of_ble_eq_true rfl) d_X_remove_79 (fun H locs HW => ?_)
            obtain ⟨u26, hu26⟩ : ∃ zW : ht_W, zW = ht_up u25 (X 0) (.inr (0, [.ref (X 1), .ref (X 2), .ref (X 5), .ref t, .int cn, .ref (X 6), .ref (X 7), .ref (X 8), .int ei]) : va_E) := ⟨_, rfl⟩
            have HW : ht_I g s u26 H locs := by rw [hu26]; exact HW
            have hX : ht_at u26 (X 0) (.inr (0, [.ref (X 1), .ref (X 2), .ref (X 5), .ref t, .int cn, .ref (X 6), .ref (X 7), .ref (X 8), .int ei]) : va_E) := by rw [hu26]; exact ht_at_self hX
            refine lv_iconst (v := 1) hx hb d_X_remove_82 (by decide) ?_
            have hpu := ht_rem_pure (ab := some ab) (N' := (va_up N3 ab (ht_spy (N3 ab) (.inr (ht_zo (zc.1, zc.2) (ht_bit k (ht_rl (N ab))) ot))))) hT hF hbF hp hbk hPF hPp hPc0 eot.symm (Or.inr ⟨ab, zc, rfl, habF, habp, habc⟩) hmk eN2 hmk3 (fun a => by
              by_cases e9 : a = ab
              · rw [e9, va_up_self]
                exact ⟨rfl, rfl, rfl, rfl⟩
              · rw [va_up_ne _ _ e9]
                exact ⟨rfl, rfl, rfl, rfl⟩) (fun a q9 => by rw [va_up_ne _ _ (fun z9 => q9 (by rw [z9]))]) (fun a zo q9 hz9 => by
              cases q9
              rw [va_up_self]
              rw [habp] at hz9
              cases hz9
              rfl)
            rw [if_neg (fun z9 => by cases z9)] at hpu
            have hfrI : ht_fr (fun z9 => z9 ∈ F ∨ z9 = X 0) w u26 := by
              rw [hu26, ph5]
              exact (((hfr2.trans hfr3).mono (fun z9 h9 => Or.inl h9)).trans (ht_fr.up (S := fun z9 => z9 ∈ F ∨ z9 = X 0) (Or.inl habF))).trans (ht_fr.up (S := fun z9 => z9 ∈ F ∨ z9 = X 0) (Or.inr rfl))
            have hS9 : ∀ i9, 1 ≤ i9 → i9 < 9 → ¬ (X i9 ∈ F ∨ X i9 = X 0) := fun i9 h1 hi9 q9 => q9.elim (fun y9 => hR.out i9 hi9 y9) (fun y9 => ht_tne (htg.1 i9 hi9) (htg.1 0 (by decide)) (fun z9 => by injection z9 with z1 z2; omega) y9)
            have h8 := List.length_pos_of_mem hkv
            have hle := List.length_erase_of_mem hkv
            have ecn2 : cn = nI (L.erase (k, v0)).length := by
              rw [hle, ecn]
              exact ht_sb (b := 1) rfl rfl (by omega)
            have nPb : be3 ≠ be := fun z9 => by rw [z9] at hPlt; omega
            have hlF : ((F.erase be).erase be3).length ≤ 2 * (L.erase (k, v0)).length := by
              rw [List.length_erase_of_mem ((List.mem_erase_of_ne nPb).mpr hPF), List.length_erase_of_mem hbF, hle]
              omega
            have hNg : ht_Nd g u26 (va_up N3 ab (ht_spy (N3 ab) (.inr (ht_zo (zc.1, zc.2) (ht_bit k (ht_rl (N ab))) ot)))) A ((F.erase be).erase be3) := by
              rw [hu26]
              exact (hNf.upo hX6 (hR.out 0 (by decide))).sub ht_er_sub
            have htgn : ht_tgs tg X (va_up N3 ab (ht_spy (N3 ab) (.inr (ht_zo (zc.1, zc.2) (ht_bit k (ht_rl (N ab))) ot)))) A ((F.erase be).erase be3) := ⟨htg.1, fun a9 h9 => ⟨(htg.2 a9 (ht_er_sub a9 h9)).1, (htg.2 a9 (ht_er_sub a9 h9)).2.1, (htg.2 a9 (ht_er_sub a9 h9)).2.2.1, fun v9 hv9 => (htg.2 a9 (ht_er_sub a9 h9)).2.2.2 v9 (by
              by_cases e9 : a9 = ab
              · rw [e9, va_up_self] at hv9
                cases hv9
              · rw [va_up_ne _ _ e9] at hv9
                exact (c3 a9).2.2.symm.trans hv9)⟩⟩
            have hRn := hR.re (tg' := tg) (L' := L.erase (k, v0)) hfrI hS9 (by rw [← ecn2]; exact hX) hNg hpu.1 hpu.2 htgn hlF
            exact ht_iret hx hb hr hlocks HW ⟨_, _, _, _, hRn, hfrI.mono (fun z9 h9 => h9.elim (fun y9 => by rw [(htg.2 z9 y9).1]; decide) (fun y9 => by rw [y9, htg.1 0 (by decide)]; decide)), Or.inr ⟨rfl, v0, hkv, rfl⟩⟩ d_X_remove_83
        · exact absurd c42 (by decide)
end
section
theorem ht_isn_or (i : Int32) : ht_isn i ∨ ¬ ht_isn i := Classical.em _
theorem ht_rng {x : Int32} {n : Nat} (hn : n < 2 ^ 31) (h0 : ¬ x < 0) (h1 : ¬ nI n ≤ x) : ∃ a : Nat, a < n ∧ x = nI a := by
  obtain ⟨j, hj, rfl⟩ := nI_of h0
  exact ⟨j, Nat.not_le.mp (fun q => h1 (nI_le q hj)), rfl⟩
theorem ht_rng0 {x : Int32} {n : Nat} (hn : n < 2 ^ 31) (h0 : x < 0) : ¬ ∃ a : Nat, a < n ∧ x = nI a := fun ⟨a, ha, e⟩ => nI_pos (n := a) (by omega) (by rw [← e]; exact h0)
theorem ht_rng1 {x : Int32} {n : Nat} (hn : n < 2 ^ 31) (h0 : nI n ≤ x) : ¬ ∃ a : Nat, a < n ∧ x = nI a := fun ⟨a, ha, e⟩ => nI_ge (b := n) ha hn (by rw [← e]; exact h0)
set_option maxHeartbeats 4000000 in
set_option maxRecDepth 100000 in
theorem c_X_has (l : Launch) (g : ht_G) (w : ht_W) {dgf : Int32 → ht_K → ht_K → ht_K} {X : Nat → Nat} {tg : Nat → Nat × Nat} {k : ht_K} {N : ht_N} {A : ht_AA} {F : List Nat} {top : Option Nat} {L : ht_L} {dt : ht_D} {opf : Nat → Option Nat} {sbf lsf enf : Nat → Int64} {ei : Int32} (hR : ht_Rp dgf g w X tg k N A F top L dt opf sbf lsf enf ei) : Met l y_X_has ws_X_has ({ frames := 4, cells := 0, slots := 0, locals := 120 } : Room) (va_Pc [.ref (X 0)] (ht_WS g w)) (ht_Qi g (fun r u => ((r = 1 ∧ ∃ v0, (k, v0) ∈ L) ∨ (r = 0 ∧ ∀ q ∈ L, q.1 ≠ k)) ∧ w = u)) 0 0 (ht_A g) := by
  refine Met.ofW (cc := b_X_has) (maxL := 1) (ret := (some .boolean)) (by decide) rfl ?_
  intro p e s m args below meth c s₁ BB hml hv
  obtain ⟨rfl, HW⟩ := hv
  have HW := ht_I.start HW
  have hx := BB.exec
  have hb := BB.bytes
  have hr := BB.returns
  have hts := atoms_spec (ws := ws_X_has) BB.pre
  have htb : ∀ w ∈ bg, w.before _ s = true := fun w h => hts w (List.mem_cons_of_mem _ h)
  have hown : s.vm.findClass R_X = some m.cls := findClass_of_methodNamed BB.named
  have hlocks := BB.notSynchronized
  have hl := lv_entry ([.ref (X 0)]) (n := 1) (Nat.le_of_ble_eq_true rfl)
  rw [lg_entry_eq]
  generalize (lg_sl ([.ref (X 0)]) ++ List.replicate (1 - (lg_sl ([.ref (X 0)])).length) Slot.unset).toArray = ls at hl ⊢
  have hl : lv_has ls 1 [(0, .ref (X 0))] := hl
  obtain ⟨hX, hK, hDg, hOp, hSb, hLs, hEn, hN, hT, hF, htg, hlen⟩ := id hR
  unfold ht_xo at hX
  refine lv_aload_n hx hb d_X_has_0 rfl (lv_at hl 0 rfl) ?_
  refine ht_cq HW (va_runV (own := R_X) (C := R_X) (As := []) (rest := []) ⟨hx, hb, hml, hown, htb⟩ (c_X_leafOfKey l g w hX hK hN hT) (cwV 0 htb (ht_gv wd_79 wd_81 sl_0 wd_1 g_X_leafOfKey) rfl rfl rfl (by decide +kernel) ⟨Nat.le_of_ble_eq_true rfl, Nat.le_of_ble_eq_true rfl⟩) (HW.preV hX rfl _) rfl rfl hl.1 rfl (lv_room (Nat.le_of_ble_eq_true rfl)) d_X_has_1 ⟨Nat.le_of_ble_eq_true rfl, Nat.le_of_ble_eq_true rfl⟩) (fun q2 u1 H locs pn HW => ?_)
  obtain ⟨pn, eww⟩ := pn
  subst eww
  rcases pn with ⟨er, hnk⟩ | ⟨b, v0, er, hbF, hp, hbk⟩
  · subst er
    refine W.eq (g2 := F0 _ 4 ls [.null]) rfl ?_
    refine lv_ifnullN (tgt := 11) hx hb d_X_has_4 (by decide) ?_
    refine lv_iconst (v := 0) hx hb d_X_has_11 (by decide) ?_
    exact ht_zret hx hb hr hlocks HW (by rfl) ⟨Or.inr ⟨rfl, hnk⟩, rfl⟩ d_X_has_12
  · subst er
    refine W.eq (g2 := F0 _ 4 ls [.ref b]) rfl ?_
    have hkv : (k, v0) ∈ L := by rw [← hbk]; exact (hT.2.2.2.1 b hbF v0 hp).2
    have hlb := hN.lf hbF hp
    have hvb := (hN b hbF).2.2.2 v0 hp
    refine lv_ifnull hx hb d_X_has_4 ?_
    refine lv_iconst (v := 1) hx hb d_X_has_7 (by decide) ?_
    refine lv_goto (tgt := 12) hx hb d_X_has_8 (by decide) ?_
    exact ht_zret hx hb hr hlocks HW (by rfl) ⟨Or.inl ⟨rfl, v0, hkv⟩, rfl⟩ d_X_has_12
set_option maxHeartbeats 4000000 in
set_option maxRecDepth 100000 in
theorem c_X_value (l : Launch) (g : ht_G) (w : ht_W) {dgf : Int32 → ht_K → ht_K → ht_K} {X : Nat → Nat} {tg : Nat → Nat × Nat} {k : ht_K} {N : ht_N} {A : ht_AA} {F : List Nat} {top : Option Nat} {L : ht_L} {dt : ht_D} {opf : Nat → Option Nat} {sbf lsf enf : Nat → Int64} {ei : Int32} (hR : ht_Rp dgf g w X tg k N A F top L dt opf sbf lsf enf ei) (i : Int32) : Met l y_X_value ws_X_value ({ frames := 4, cells := 0, slots := 0, locals := 120 } : Room) (va_Pc [.ref (X 0), .int i] (ht_WS g w)) (ht_Ql g (fun r u => ((∃ v0 j, (k, v0) ∈ L ∧ j < 4 ∧ i = nI j ∧ r = ht_kf v0 j) ∨ (((∀ q ∈ L, q.1 ≠ k) ∨ ¬ ht_isn i) ∧ r = 0)) ∧ w = u)) 0 0 (ht_A g) := by
  refine Met.ofW (cc := b_X_value) (maxL := 3) (ret := (some .long)) (by decide) rfl ?_
  intro p e s m args below meth c s₁ BB hml hv
  obtain ⟨rfl, HW⟩ := hv
  have HW := ht_I.start HW
  have hx := BB.exec
  have hb := BB.bytes
  have hr := BB.returns
  have hts := atoms_spec (ws := ws_X_value) BB.pre
  have htb : ∀ w ∈ bg, w.before _ s = true := fun w h => hts w (List.mem_cons_of_mem _ h)
  have hown : s.vm.findClass R_X = some m.cls := findClass_of_methodNamed BB.named
  have hlocks := BB.notSynchronized
  have hl := lv_entry ([.ref (X 0), .int i]) (n := 3) (Nat.le_of_ble_eq_true rfl)
  rw [lg_entry_eq]
  generalize (lg_sl ([.ref (X 0), .int i]) ++ List.replicate (3 - (lg_sl ([.ref (X 0), .int i])).length) Slot.unset).toArray = ls at hl ⊢
  have hl : lv_has ls 3 [(0, .ref (X 0)), (1, .int i)] := hl
  obtain ⟨hX, hK, hDg, hOp, hSb, hLs, hEn, hN, hT, hF, htg, hlen⟩ := id hR
  unfold ht_xo at hX
  refine lv_aload_n hx hb d_X_value_0 rfl (lv_at hl 0 rfl) ?_
  refine ht_cq HW (va_runV (own := R_X) (C := R_X) (As := []) (rest := []) ⟨hx, hb, hml, hown, htb⟩ (c_X_leafOfKey l g w hX hK hN hT) (cwV 0 htb (ht_gv wd_79 wd_81 sl_0 wd_1 g_X_leafOfKey) rfl rfl rfl (by decide +kernel) ⟨Nat.le_of_ble_eq_true rfl, Nat.le_of_ble_eq_true rfl⟩) (HW.preV hX rfl _) rfl rfl hl.1 rfl (lv_room (Nat.le_of_ble_eq_true rfl)) d_X_value_1 ⟨Nat.le_of_ble_eq_true rfl, Nat.le_of_ble_eq_true rfl⟩) (fun q2 u1 H locs pn HW => ?_)
  obtain ⟨pn, eww⟩ := pn
  subst eww
  rcases pn with ⟨er, hnk⟩ | ⟨b, v0, er, hbF, hp, hbk⟩
  · subst er
    refine W.eq (g2 := F0 _ 4 ls [.null]) rfl ?_
    refine lv_astore_nN (lv' := [(2, .null), (0, .ref (X 0)), (1, .int i)]) hx hb d_X_value_4 rfl hl (by decide) rfl (fun ls hl => ?_)
    refine lv_aload_nN hx hb d_X_value_5 rfl (lv_at hl 0 rfl) ?_
    refine lv_ifnullN (tgt := 25) hx hb d_X_value_6 (by decide) ?_
    refine lv_lconst (v := 0) hx hb d_X_value_25 (by decide) ?_
    exact ht_lret hx hb hr hlocks HW ⟨Or.inr ⟨Or.inl hnk, rfl⟩, rfl⟩ d_X_value_26
  · subst er
    refine W.eq (g2 := F0 _ 4 ls [.ref b]) rfl ?_
    have hkv : (k, v0) ∈ L := by rw [← hbk]; exact (hT.2.2.2.1 b hbF v0 hp).2
    have hlb := hN.lf hbF hp
    have hvb := (hN b hbF).2.2.2 v0 hp
    refine lv_astore_n (lv' := [(2, .ref b), (0, .ref (X 0)), (1, .int i)]) hx hb d_X_value_4 rfl hl (by decide) rfl (fun ls hl => ?_)
    refine lv_aload_n hx hb d_X_value_5 rfl (lv_at hl 0 rfl) ?_
    refine lv_ifnull hx hb d_X_value_6 ?_
    refine lv_iload_n hx hb d_X_value_9 rfl (lv_at hl 2 rfl) ?_
    refine ht_ci HW (va_runS (own := R_X) (As := [.int i]) (rest := []) ⟨hx, hb, hml, hown, htb⟩ (c_X_isNumber l g w i) (va_cwS 1 htb (ht_gs wd_198 wd_199 wd_1 g_X_isNumber) rfl rfl rfl (by decide +kernel) ⟨Nat.le_of_ble_eq_true rfl, Nat.le_of_ble_eq_true rfl⟩) (HW.preS _) rfl rfl hl.1 rfl (lv_room (Nat.le_of_ble_eq_true rfl)) d_X_value_10 ⟨Nat.le_of_ble_eq_true rfl, Nat.le_of_ble_eq_true rfl⟩) (fun q4 u3 H locs pi HW => ?_)
    obtain ⟨pi, eww⟩ := pi
    subst eww
    rcases ht_isn_or i with hisn | hisn
    · have er := pi.1 hisn
      subst er
      refine W.eq (g2 := F0 _ 13 ls [.int 1]) rfl ?_
      obtain ⟨j, hj, ej⟩ := id hisn
      refine lv_if_eq (tgt := 25) hx hb d_X_value_13 (by decide) (fun c13 => ?_) (fun c13 => ?_)
      · exact absurd c13 (by decide)
      · refine lv_aload_n hx hb d_X_value_16 rfl (lv_at hl 0 rfl) ?_
        refine ht_get (C := R_L) (T := F_L) (N := 5) (v := .ref (A b).2.2) hx hb htb i_L hown HW hlb rfl 4 (by decide) (htb _ wd_126) (fun _ h9 => h9) rfl d_X_value_17 ?_
        refine lv_iload_n hx hb d_X_value_20 rfl (lv_at hl 2 rfl) ?_
        refine ht_lald hx hb HW hvb (by rw [ej]; exact vp_in_nI (by omega) (by omega)) d_X_value_21 ?_
        refine lv_topl (fun vv evv => ?_)
        have evv : vv = (ht_kf v0) j := by rw [evv, ej, nI_clamp (by omega)]
        refine lv_goto (tgt := 26) hx hb d_X_value_22 (by decide) ?_
        exact ht_lret hx hb hr hlocks HW ⟨Or.inl ⟨v0, j, hkv, hj, ej, evv⟩, rfl⟩ d_X_value_26
    · have er := pi.2 hisn
      subst er
      refine W.eq (g2 := F0 _ 13 ls [.int 0]) rfl ?_
      refine lv_if_eq (tgt := 25) hx hb d_X_value_13 (by decide) (fun c13 => ?_) (fun c13 => ?_)
      · refine lv_lconst (v := 0) hx hb d_X_value_25 (by decide) ?_
        exact ht_lret hx hb hr hlocks HW ⟨Or.inr ⟨Or.inr hisn, rfl⟩, rfl⟩ d_X_value_26
      · exact absurd rfl c13
set_option maxHeartbeats 4000000 in
set_option maxRecDepth 100000 in
theorem c_X_count (l : Launch) (g : ht_G) (w : ht_W) {dgf : Int32 → ht_K → ht_K → ht_K} {X : Nat → Nat} {tg : Nat → Nat × Nat} {k : ht_K} {N : ht_N} {A : ht_AA} {F : List Nat} {top : Option Nat} {L : ht_L} {dt : ht_D} {opf : Nat → Option Nat} {sbf lsf enf : Nat → Int64} {ei : Int32} (hR : ht_Rp dgf g w X tg k N A F top L dt opf sbf lsf enf ei) : Met l y_X_count ws_X_count ({ frames := 0, cells := 0, slots := 0, locals := 0 } : Room) (va_Pc [.ref (X 0)] (ht_WS g w)) (ht_Qi g (fun r u => r = nI L.length ∧ w = u)) 0 0 (ht_A g) := by
  refine Met.ofW (cc := b_X_count) (maxL := 1) (ret := (some .int)) (by decide) rfl ?_
  intro p e s m args below meth c s₁ BB hml hv
  obtain ⟨rfl, HW⟩ := hv
  have HW := ht_I.start HW
  have hx := BB.exec
  have hb := BB.bytes
  have hr := BB.returns
  have hts := atoms_spec (ws := ws_X_count) BB.pre
  have htb : ∀ w ∈ bg, w.before _ s = true := fun w h => hts w (List.mem_cons_of_mem _ h)
  have hown : s.vm.findClass R_X = some m.cls := findClass_of_methodNamed BB.named
  have hlocks := BB.notSynchronized
  have hl := lv_entry ([.ref (X 0)]) (n := 1) (Nat.le_of_ble_eq_true rfl)
  rw [lg_entry_eq]
  generalize (lg_sl ([.ref (X 0)]) ++ List.replicate (1 - (lg_sl ([.ref (X 0)])).length) Slot.unset).toArray = ls at hl ⊢
  have hl : lv_has ls 1 [(0, .ref (X 0))] := hl
  obtain ⟨hX, hK, hDg, hOp, hSb, hLs, hEn, hN, hT, hF, htg, hlen⟩ := id hR
  unfold ht_xo at hX
  refine lv_aload_n hx hb d_X_count_0 rfl (lv_at hl 0 rfl) ?_
  refine ht_get (C := R_X) (T := F_X) (N := 9) (v := .int (nI L.length)) hx hb htb i_X hown HW hX rfl 4 (by decide) (htb _ wd_44) (fun _ h9 => h9) rfl d_X_count_1 ?_
  exact ht_iret hx hb hr hlocks HW ⟨rfl, rfl⟩ d_X_count_4
set_option maxHeartbeats 4000000 in
set_option maxRecDepth 100000 in
theorem c_X_ending (l : Launch) (g : ht_G) (w : ht_W) {dgf : Int32 → ht_K → ht_K → ht_K} {X : Nat → Nat} {tg : Nat → Nat × Nat} {k : ht_K} {N : ht_N} {A : ht_AA} {F : List Nat} {top : Option Nat} {L : ht_L} {dt : ht_D} {opf : Nat → Option Nat} {sbf lsf enf : Nat → Int64} {ei : Int32} (hR : ht_Rp dgf g w X tg k N A F top L dt opf sbf lsf enf ei) : Met l y_X_ending ws_X_ending ({ frames := 0, cells := 0, slots := 0, locals := 0 } : Room) (va_Pc [.ref (X 0)] (ht_WS g w)) (ht_Qi g (fun r u => r = ei ∧ w = u)) 0 0 (ht_A g) := by
  refine Met.ofW (cc := b_X_ending) (maxL := 1) (ret := (some .int)) (by decide) rfl ?_
  intro p e s m args below meth c s₁ BB hml hv
  obtain ⟨rfl, HW⟩ := hv
  have HW := ht_I.start HW
  have hx := BB.exec
  have hb := BB.bytes
  have hr := BB.returns
  have hts := atoms_spec (ws := ws_X_ending) BB.pre
  have htb : ∀ w ∈ bg, w.before _ s = true := fun w h => hts w (List.mem_cons_of_mem _ h)
  have hown : s.vm.findClass R_X = some m.cls := findClass_of_methodNamed BB.named
  have hlocks := BB.notSynchronized
  have hl := lv_entry ([.ref (X 0)]) (n := 1) (Nat.le_of_ble_eq_true rfl)
  rw [lg_entry_eq]
  generalize (lg_sl ([.ref (X 0)]) ++ List.replicate (1 - (lg_sl ([.ref (X 0)])).length) Slot.unset).toArray = ls at hl ⊢
  have hl : lv_has ls 1 [(0, .ref (X 0))] := hl
  obtain ⟨hX, hK, hDg, hOp, hSb, hLs, hEn, hN, hT, hF, htg, hlen⟩ := id hR
  unfold ht_xo at hX
  refine lv_aload_n hx hb d_X_ending_0 rfl (lv_at hl 0 rfl) ?_
  refine ht_get (C := R_X) (T := F_X) (N := 9) (v := .int ei) hx hb htb i_X hown HW hX rfl 8 (by decide) (htb _ wd_48) (fun _ h9 => h9) rfl d_X_ending_1 ?_
  exact ht_iret hx hb hr hlocks HW ⟨rfl, rfl⟩ d_X_ending_4
set_option maxHeartbeats 4000000 in
set_option maxRecDepth 100000 in
theorem c_X_sibling (l : Launch) (g : ht_G) (w : ht_W) {dgf : Int32 → ht_K → ht_K → ht_K} {X : Nat → Nat} {tg : Nat → Nat × Nat} {k : ht_K} {N : ht_N} {A : ht_AA} {F : List Nat} {top : Option Nat} {L : ht_L} {dt : ht_D} {opf : Nat → Option Nat} {sbf lsf enf : Nat → Int64} {ei : Int32} (hR : ht_Rp dgf g w X tg k N A F top L dt opf sbf lsf enf ei) (kk i : Int32) : Met l y_X_sibling ws_X_sibling ({ frames := 1, cells := 0, slots := 0, locals := 30 } : Room) (va_Pc [.ref (X 0), .int kk, .int i] (ht_WS g w)) (ht_Ql g (fun r u => ((∃ a1 j, a1 < 256 ∧ j < 4 ∧ kk = nI a1 ∧ i = nI j ∧ r = sbf (a1 * 4 + j)) ∨ (((¬ ∃ a1 : Nat, a1 < 256 ∧ kk = nI a1) ∨ ¬ ht_isn i) ∧ r = 0)) ∧ w = u)) 0 0 (ht_A g) := by
  refine Met.ofW (cc := b_X_sibling) (maxL := 3) (ret := (some .long)) (by decide) rfl ?_
  intro p e s m args below meth c s₁ BB hml hv
  obtain ⟨rfl, HW⟩ := hv
  have HW := ht_I.start HW
  have hx := BB.exec
  have hb := BB.bytes
  have hr := BB.returns
  have hts := atoms_spec (ws := ws_X_sibling) BB.pre
  have htb : ∀ w ∈ bg, w.before _ s = true := fun w h => hts w (List.mem_cons_of_mem _ h)
  have hown : s.vm.findClass R_X = some m.cls := findClass_of_methodNamed BB.named
  have hlocks := BB.notSynchronized
  have hl := lv_entry ([.ref (X 0), .int kk, .int i]) (n := 3) (Nat.le_of_ble_eq_true rfl)
  rw [lg_entry_eq]
  generalize (lg_sl ([.ref (X 0), .int kk, .int i]) ++ List.replicate (3 - (lg_sl ([.ref (X 0), .int kk, .int i])).length) Slot.unset).toArray = ls at hl ⊢
  have hl : lv_has ls 3 [(0, .ref (X 0)), (1, .int kk), (2, .int i)] := hl
  obtain ⟨hX, hK, hDg, hOp, hSb, hLs, hEn, hN, hT, hF, htg, hlen⟩ := id hR
  unfold ht_xo at hX
  refine lv_iload_n hx hb d_X_sibling_0 rfl (lv_at hl 1 rfl) ?_
  refine lv_if_lt (tgt := 31) hx hb d_X_sibling_1 (by decide) (fun c1 => ?_) (fun c1 => ?_)
  · have hout := ht_rng0 (n := 256) (by decide) c1
    refine lv_lconst (v := 0) hx hb d_X_sibling_31 (by decide) ?_
    exact ht_lret hx hb hr hlocks HW ⟨Or.inr ⟨Or.inl hout, rfl⟩, rfl⟩ d_X_sibling_32
  · refine lv_iload_n hx hb d_X_sibling_4 rfl (lv_at hl 1 rfl) ?_
    refine lv_sipush (v := 256) hx hb d_X_sibling_5 (by decide) ?_
    refine lv_icmp_ge (tgt := 31) hx hb d_X_sibling_8 (by decide) (fun c8 => ?_) (fun c8 => ?_)
    · have hout := ht_rng1 (n := 256) (by decide) c8
      refine lv_lconst (v := 0) hx hb d_X_sibling_31 (by decide) ?_
      exact ht_lret hx hb hr hlocks HW ⟨Or.inr ⟨Or.inl hout, rfl⟩, rfl⟩ d_X_sibling_32
    · obtain ⟨a1, ha1, ea1⟩ := ht_rng (n := 256) (by decide) c1 c8
      refine lv_iload_n hx hb d_X_sibling_11 rfl (lv_at hl 2 rfl) ?_
      refine ht_ci HW (va_runS (own := R_X) (As := [.int i]) (rest := []) ⟨hx, hb, hml, hown, htb⟩ (c_X_isNumber l g w i) (va_cwS 1 htb (ht_gs wd_198 wd_199 wd_1 g_X_isNumber) rfl rfl rfl (by decide +kernel) ⟨Nat.le_of_ble_eq_true rfl, Nat.le_of_ble_eq_true rfl⟩) (HW.preS _) rfl rfl hl.1 rfl (lv_room (Nat.le_of_ble_eq_true rfl)) d_X_sibling_12 ⟨Nat.le_of_ble_eq_true rfl, Nat.le_of_ble_eq_true rfl⟩) (fun q2 u1 H locs pi HW => ?_)
      obtain ⟨pi, eww⟩ := pi
      subst eww
      rcases ht_isn_or i with hisn | hisn
      · have er := pi.1 hisn
        subst er
        refine W.eq (g2 := F0 _ 15 ls [.int 1]) rfl ?_
        obtain ⟨j, hj, ej⟩ := id hisn
        refine lv_if_eq (tgt := 31) hx hb d_X_sibling_15 (by decide) (fun c15 => ?_) (fun c15 => ?_)
        · exact absurd c15 (by decide)
        · refine lv_aload_n hx hb d_X_sibling_18 rfl (lv_at hl 0 rfl) ?_
          refine ht_get (C := R_X) (T := F_X) (N := 9) (v := .ref (X 6)) hx hb htb i_X hown HW hX rfl 5 (by decide) (htb _ wd_45) (fun _ h9 => h9) rfl d_X_sibling_19 ?_
          refine lv_iload_n hx hb d_X_sibling_22 rfl (lv_at hl 1 rfl) ?_
          refine lv_iconst (v := 4) hx hb d_X_sibling_23 (by decide) ?_
          refine lv_imul hx hb d_X_sibling_24 ?_
          refine lv_iload_n hx hb d_X_sibling_25 rfl (lv_at hl 2 rfl) ?_
          refine lv_iadd hx hb d_X_sibling_26 ?_
          refine lv_topi (fun ix eix => ?_)
          have hix : ix = nI (a1 * 4 + j) := by rw [eix, ea1, ej, show (4 : Int32) = nI 4 from rfl, pk_mul, nI_add]
          refine ht_lald hx hb HW hSb (by rw [hix]; exact vp_in_nI (by omega) (by omega)) d_X_sibling_27 ?_
          refine lv_topl (fun vv evv => ?_)
          have evv : vv = sbf (a1 * 4 + j) := by rw [evv, hix, nI_clamp (by omega)]
          refine lv_goto (tgt := 32) hx hb d_X_sibling_28 (by decide) ?_
          exact ht_lret hx hb hr hlocks HW ⟨Or.inl ⟨a1, j, ha1, hj, ea1, ej, evv⟩, rfl⟩ d_X_sibling_32
      · have er := pi.2 hisn
        subst er
        refine W.eq (g2 := F0 _ 15 ls [.int 0]) rfl ?_
        refine lv_if_eq (tgt := 31) hx hb d_X_sibling_15 (by decide) (fun c15 => ?_) (fun c15 => ?_)
        · refine lv_lconst (v := 0) hx hb d_X_sibling_31 (by decide) ?_
          exact ht_lret hx hb hr hlocks HW ⟨Or.inr ⟨Or.inr hisn, rfl⟩, rfl⟩ d_X_sibling_32
        · exact absurd rfl c15
set_option maxHeartbeats 4000000 in
set_option maxRecDepth 100000 in
theorem c_X_endNumber (l : Launch) (g : ht_G) (w : ht_W) {dgf : Int32 → ht_K → ht_K → ht_K} {X : Nat → Nat} {tg : Nat → Nat × Nat} {k : ht_K} {N : ht_N} {A : ht_AA} {F : List Nat} {top : Option Nat} {L : ht_L} {dt : ht_D} {opf : Nat → Option Nat} {sbf lsf enf : Nat → Int64} {ei : Int32} (hR : ht_Rp dgf g w X tg k N A F top L dt opf sbf lsf enf ei) (kk i : Int32) : Met l y_X_endNumber ws_X_endNumber ({ frames := 1, cells := 0, slots := 0, locals := 30 } : Room) (va_Pc [.ref (X 0), .int kk, .int i] (ht_WS g w)) (ht_Ql g (fun r u => ((∃ a1 j, a1 < 2 ∧ j < 4 ∧ kk = nI a1 ∧ i = nI j ∧ r = enf (a1 * 4 + j)) ∨ (((¬ ∃ a1 : Nat, a1 < 2 ∧ kk = nI a1) ∨ ¬ ht_isn i) ∧ r = 0)) ∧ w = u)) 0 0 (ht_A g) := by
  refine Met.ofW (cc := b_X_endNumber) (maxL := 3) (ret := (some .long)) (by decide) rfl ?_
  intro p e s m args below meth c s₁ BB hml hv
  obtain ⟨rfl, HW⟩ := hv
  have HW := ht_I.start HW
  have hx := BB.exec
  have hb := BB.bytes
  have hr := BB.returns
  have hts := atoms_spec (ws := ws_X_endNumber) BB.pre
  have htb : ∀ w ∈ bg, w.before _ s = true := fun w h => hts w (List.mem_cons_of_mem _ h)
  have hown : s.vm.findClass R_X = some m.cls := findClass_of_methodNamed BB.named
  have hlocks := BB.notSynchronized
  have hl := lv_entry ([.ref (X 0), .int kk, .int i]) (n := 3) (Nat.le_of_ble_eq_true rfl)
  rw [lg_entry_eq]
  generalize (lg_sl ([.ref (X 0), .int kk, .int i]) ++ List.replicate (3 - (lg_sl ([.ref (X 0), .int kk, .int i])).length) Slot.unset).toArray = ls at hl ⊢
  have hl : lv_has ls 3 [(0, .ref (X 0)), (1, .int kk), (2, .int i)] := hl
  obtain ⟨hX, hK, hDg, hOp, hSb, hLs, hEn, hN, hT, hF, htg, hlen⟩ := id hR
  unfold ht_xo at hX
  refine lv_iload_n hx hb d_X_endNumber_0 rfl (lv_at hl 1 rfl) ?_
  refine lv_if_lt (tgt := 29) hx hb d_X_endNumber_1 (by decide) (fun c1 => ?_) (fun c1 => ?_)
  · have hout := ht_rng0 (n := 2) (by decide) c1
    refine lv_lconst (v := 0) hx hb d_X_endNumber_29 (by decide) ?_
    exact ht_lret hx hb hr hlocks HW ⟨Or.inr ⟨Or.inl hout, rfl⟩, rfl⟩ d_X_endNumber_30
  · refine lv_iload_n hx hb d_X_endNumber_4 rfl (lv_at hl 1 rfl) ?_
    refine lv_iconst (v := 2) hx hb d_X_endNumber_5 (by decide) ?_
    refine lv_icmp_ge (tgt := 29) hx hb d_X_endNumber_6 (by decide) (fun c6 => ?_) (fun c6 => ?_)
    · have hout := ht_rng1 (n := 2) (by decide) c6
      refine lv_lconst (v := 0) hx hb d_X_endNumber_29 (by decide) ?_
      exact ht_lret hx hb hr hlocks HW ⟨Or.inr ⟨Or.inl hout, rfl⟩, rfl⟩ d_X_endNumber_30
    · obtain ⟨a1, ha1, ea1⟩ := ht_rng (n := 2) (by decide) c1 c6
      refine lv_iload_n hx hb d_X_endNumber_9 rfl (lv_at hl 2 rfl) ?_
      refine ht_ci HW (va_runS (own := R_X) (As := [.int i]) (rest := []) ⟨hx, hb, hml, hown, htb⟩ (c_X_isNumber l g w i) (va_cwS 1 htb (ht_gs wd_198 wd_199 wd_1 g_X_isNumber) rfl rfl rfl (by decide +kernel) ⟨Nat.le_of_ble_eq_true rfl, Nat.le_of_ble_eq_true rfl⟩) (HW.preS _) rfl rfl hl.1 rfl (lv_room (Nat.le_of_ble_eq_true rfl)) d_X_endNumber_10 ⟨Nat.le_of_ble_eq_true rfl, Nat.le_of_ble_eq_true rfl⟩) (fun q2 u1 H locs pi HW => ?_)
      obtain ⟨pi, eww⟩ := pi
      subst eww
      rcases ht_isn_or i with hisn | hisn
      · have er := pi.1 hisn
        subst er
        refine W.eq (g2 := F0 _ 13 ls [.int 1]) rfl ?_
        obtain ⟨j, hj, ej⟩ := id hisn
        refine lv_if_eq (tgt := 29) hx hb d_X_endNumber_13 (by decide) (fun c13 => ?_) (fun c13 => ?_)
        · exact absurd c13 (by decide)
        · refine lv_aload_n hx hb d_X_endNumber_16 rfl (lv_at hl 0 rfl) ?_
          refine ht_get (C := R_X) (T := F_X) (N := 9) (v := .ref (X 8)) hx hb htb i_X hown HW hX rfl 7 (by decide) (htb _ wd_47) (fun _ h9 => h9) rfl d_X_endNumber_17 ?_
          refine lv_iload_n hx hb d_X_endNumber_20 rfl (lv_at hl 1 rfl) ?_
          refine lv_iconst (v := 4) hx hb d_X_endNumber_21 (by decide) ?_
          refine lv_imul hx hb d_X_endNumber_22 ?_
          refine lv_iload_n hx hb d_X_endNumber_23 rfl (lv_at hl 2 rfl) ?_
          refine lv_iadd hx hb d_X_endNumber_24 ?_
          refine lv_topi (fun ix eix => ?_)
          have hix : ix = nI (a1 * 4 + j) := by rw [eix, ea1, ej, show (4 : Int32) = nI 4 from rfl, pk_mul, nI_add]
          refine ht_lald hx hb HW hEn (by rw [hix]; exact vp_in_nI (by omega) (by omega)) d_X_endNumber_25 ?_
          refine lv_topl (fun vv evv => ?_)
          have evv : vv = enf (a1 * 4 + j) := by rw [evv, hix, nI_clamp (by omega)]
          refine lv_goto (tgt := 30) hx hb d_X_endNumber_26 (by decide) ?_
          exact ht_lret hx hb hr hlocks HW ⟨Or.inl ⟨a1, j, ha1, hj, ea1, ej, evv⟩, rfl⟩ d_X_endNumber_30
      · have er := pi.2 hisn
        subst er
        refine W.eq (g2 := F0 _ 13 ls [.int 0]) rfl ?_
        refine lv_if_eq (tgt := 29) hx hb d_X_endNumber_13 (by decide) (fun c13 => ?_) (fun c13 => ?_)
        · refine lv_lconst (v := 0) hx hb d_X_endNumber_29 (by decide) ?_
          exact ht_lret hx hb hr hlocks HW ⟨Or.inr ⟨Or.inr hisn, rfl⟩, rfl⟩ d_X_endNumber_30
        · exact absurd rfl c13
theorem ht_Rp.key {dgf : Int32 → ht_K → ht_K → ht_K} {g : ht_G} {w : ht_W} {X : Nat → Nat} {tg : Nat → Nat × Nat} {k k' : ht_K} {N : ht_N} {A : ht_AA} {F : List Nat} {top : Option Nat} {L : ht_L} {dt : ht_D} {opf : Nat → Option Nat} {sbf lsf enf : Nat → Int64} {ei : Int32} (h : ht_Rp dgf g w X tg k N A F top L dt opf sbf lsf enf ei) : ht_Rp dgf g (ht_up w (X 1) (ht_al g 4 (ht_kf k'))) X tg k' N A F top L dt opf sbf lsf enf ei := by
  obtain ⟨h1, h2, h3, h4, h5, h6, h7, h8, h9, h10, h11, h12⟩ := id h
  have hne : ∀ i, i < 9 → i ≠ 1 → X i ≠ X 1 := fun i hi hn => ht_tne (h11.1 i hi) (h11.1 1 (by decide)) (fun z => hn (by injection z))
  refine ⟨ht_at_ne h1 (hne 0 (by decide) (by decide)), ht_at_self h2, ⟨ht_at_ne h3.1 (hne 2 (by decide) (by decide)), ht_at_ne h3.2.1 (hne 3 (by decide) (by decide)), ht_at_ne h3.2.2 (hne 4 (by decide) (by decide))⟩, ht_at_ne h4 (hne 5 (by decide) (by decide)), ht_at_ne h5 (hne 6 (by decide) (by decide)), ht_at_ne h6 (hne 7 (by decide) (by decide)), ht_at_ne h7 (hne 8 (by decide) (by decide)), fun a ha => ?_, h9, h10, h11, h12⟩
  obtain ⟨q1, q2, q3, q4⟩ := h8 a ha
  obtain ⟨t1, t2, t3, t4⟩ := h11.2 a ha
  have tx := h11.1 1 (by decide)
  exact ⟨ht_at_ne q1 (ht_tne t1 tx (fun z => by cases z)), ht_at_ne q2 (ht_tne t2 tx (fun z => by cases z)), ht_at_ne q3 (ht_tne t3 tx (fun z => by cases z)), fun v hv => ht_at_ne (q4 v hv) (ht_tne (t4 v hv) tx (fun z => by cases z))⟩
set_option maxHeartbeats 4000000 in
set_option maxRecDepth 100000 in
theorem c_X_key (l : Launch) (g : ht_G) (w : ht_W) {dgf : Int32 → ht_K → ht_K → ht_K} {X : Nat → Nat} {tg : Nat → Nat × Nat} {k : ht_K} {N : ht_N} {A : ht_AA} {F : List Nat} {top : Option Nat} {L : ht_L} {dt : ht_D} {opf : Nat → Option Nat} {sbf lsf enf : Nat → Int64} {ei : Int32} (hR : ht_Rp dgf g w X tg k N A F top L dt opf sbf lsf enf ei) (v1 v2 v3 v4 : Int64) : Met l y_X_key ws_X_key ({ frames := 1, cells := 0, slots := 0, locals := 30 } : Room) (va_Pc [.ref (X 0), .long v1, .long v2, .long v3, .long v4] (ht_WS g w)) (ht_Qv g (fun u => ht_Rp dgf g u X tg (v1, v2, v3, v4) N A F top L dt opf sbf lsf enf ei ∧ ht_fr (fun b => (tg b).1 ≠ 0) w u)) 0 0 (ht_A g) := by
  refine Met.ofW (cc := b_X_key) (maxL := 9) (ret := none) (by decide) rfl ?_
  intro p e s m args below meth c s₁ BB hml hv
  obtain ⟨rfl, HW⟩ := hv
  have HW := ht_I.start HW
  have hx := BB.exec
  have hb := BB.bytes
  have hr := BB.returns
  have hts := atoms_spec (ws := ws_X_key) BB.pre
  have htb : ∀ w ∈ bg, w.before _ s = true := fun w h => hts w (List.mem_cons_of_mem _ h)
  have hown : s.vm.findClass R_X = some m.cls := findClass_of_methodNamed BB.named
  have hlocks := BB.notSynchronized
  have hl := lv_entry ([.ref (X 0), .long v1, .long v2, .long v3, .long v4]) (n := 9) (Nat.le_of_ble_eq_true rfl)
  rw [lg_entry_eq]
  generalize (lg_sl ([.ref (X 0), .long v1, .long v2, .long v3, .long v4]) ++ List.replicate (9 - (lg_sl ([.ref (X 0), .long v1, .long v2, .long v3, .long v4])).length) Slot.unset).toArray = ls at hl ⊢
  have hl : lv_has ls 9 [(0, .ref (X 0)), (1, .long v1), (3, .long v2), (5, .long v3), (7, .long v4)] := hl
  obtain ⟨hX, hK, hDg, hOp, hSb, hLs, hEn, hN, hT, hF, htg, hlen⟩ := id hR
  unfold ht_xo at hX
  refine lv_aload_n hx hb d_X_key_0 rfl (lv_at hl 0 rfl) ?_
  refine ht_get (C := R_X) (T := F_X) (N := 9) (v := .ref (X 1)) hx hb htb i_X hown HW hX rfl 0 (by decide) (htb _ wd_40) (fun _ h9 => h9) rfl d_X_key_1 ?_
  refine lv_lload_n hx hb d_X_key_4 rfl (lv_at hl 1 rfl) ?_
  refine lv_lload_n hx hb d_X_key_5 rfl (lv_at hl 2 rfl) ?_
  refine lv_lload hx hb d_X_key_6 (lv_at hl 3 rfl) ?_
  refine lv_lload hx hb d_X_key_8 (lv_at hl 4 rfl) ?_
  refine ht_cv HW (va_runS (own := R_X) (As := [.ref (X 1), .long v1, .long v2, .long v3, .long v4]) (rest := []) ⟨hx, hb, hml, hown, htb⟩ (c_X_fill l g w hK v1 v2 v3 v4) (va_cwS 5 htb (ht_gs wd_72 wd_73 wd_1 g_X_fill) rfl rfl rfl (by decide +kernel) ⟨Nat.le_of_ble_eq_true rfl, Nat.le_of_ble_eq_true rfl⟩) (HW.preS _) rfl rfl hl.1 rfl (lv_room (Nat.le_of_ble_eq_true rfl)) d_X_key_10 ⟨Nat.le_of_ble_eq_true rfl, Nat.le_of_ble_eq_true rfl⟩) (fun u1 H locs pf HW => ?_)
  exact ht_vret hx hb hr hlocks HW ⟨by rw [pf]; exact hR.key, by rw [pf]; exact ht_fr.up (by rw [htg.1 1 (by decide)]; decide)⟩ d_X_key_13
end
section
/-! THE DIGEST as a function of the bytes: the class's side. -/
def ht_c4 (b : Nat → Int32) (i : Nat) : Int32 := ((((((b i &&& 255) <<< ((8 : Int32) &&& 31)) ||| (b (i + 1) &&& 255)) <<< ((8 : Int32) &&& 31)) ||| (b (i + 2) &&& 255)) <<< ((8 : Int32) &&& 31)) ||| (b (i + 3) &&& 255)
/-- the words behind j blocks -/
def ht_sw (b : Nat → Int32) : Nat → Nat → Int32
  | 0 => ht_w0
  | j + 1 => ht_bl (ht_sw b j) (fun t => ht_c4 b (64 * j + 4 * t))
theorem ht_sp_cg {w w' : Nat → Int32} (h : ∀ t, t < 16 → w t = w' t) : ∀ k t, t < 16 + k → ht_sp k w t = ht_sp k w' t := by
  intro k
  induction k with
  | zero => intro t ht; exact h t ht
  | succ k ih =>
    intro t ht
    unfold ht_sp upd
    by_cases e : t = 16 + k
    · rw [if_pos e, if_pos e, ih k (by omega), ih (k + 1) (by omega), ih (k + 9) (by omega), ih (k + 14) (by omega)]
    · rw [if_neg e, if_neg e]
      exact ih t (by omega)
theorem ht_rn_cg {w w' : Nat → Int32} (o : ht_O) (h : ∀ t, t < 64 → w t = w' t) : ∀ k, k ≤ 64 → ht_rn w o k = ht_rn w' o k := by
  intro k
  induction k with
  | zero => intro _; rfl
  | succ k ih =>
    intro hk
    unfold ht_rn
    rw [ih (by omega), h k (by omega)]
theorem ht_bl_cg {ws w w' : Nat → Int32} (h : ∀ t, t < 16 → w t = w' t) : ht_bl ws w = ht_bl ws w' := by
  unfold ht_bl
  rw [ht_rn_cg (ht_o8 ws) (fun t ht => ht_sp_cg h 48 t (by omega)) 64 (Nat.le_refl _)]
theorem ht_sl8 (x : Int32) : (x <<< ((8 : Int32) &&& 31)).toBitVec = x.toBitVec <<< 8 := by
  show x.toBitVec <<< (((8 : Int32) &&& 31).toBitVec.smod 32) = _
  rw [BitVec.shiftLeft_eq']
  rfl
/-- what four bytes push out -/
theorem ht_out (x a b c d : Int32) : (((((((x <<< ((8 : Int32) &&& 31)) ||| a) <<< ((8 : Int32) &&& 31)) ||| b) <<< ((8 : Int32) &&& 31)) ||| c) <<< ((8 : Int32) &&& 31)) ||| d = ((((((a <<< ((8 : Int32) &&& 31)) ||| b) <<< ((8 : Int32) &&& 31)) ||| c) <<< ((8 : Int32) &&& 31)) ||| d) := by
  apply Int32.toBitVec_inj.mp
  simp only [Int32.toBitVec_or, ht_sl8, BitVec.shiftLeft_or_distrib, ← BitVec.shiftLeft_add]
  have e : x.toBitVec <<< (8 + 8 + 8 + 8) = 0#32 := BitVec.shiftLeft_eq_zero (by decide)
  rw [e, BitVec.zero_or]
def ht_sh8 (b : Nat → Int32) (i : Nat) (x : Int32) : Nat → Int32
  | 0 => x
  | r + 1 => (ht_sh8 b i x r <<< ((8 : Int32) &&& 31)) ||| (b (i + r) &&& 255)
theorem ht_sh8_4 (b : Nat → Int32) (i : Nat) (x : Int32) : ht_sh8 b i x 4 = ht_c4 b i := ht_out x _ _ _ _
def ht_S8 (b : Nat → Int32) (n : Nat) (t : ht_D) : Prop := t.1 = ht_sw b (n / 64) ∧ t.2.2 = nI n ∧ (∀ q, 4 * q + 4 ≤ n % 64 → t.2.1 q = ht_c4 b (64 * (n / 64) + 4 * q)) ∧ ∃ x, t.2.1 (n % 64 / 4) = ht_sh8 b (64 * (n / 64) + 4 * (n % 64 / 4)) x (n % 4)
theorem ht_S8.start (b : Nat → Int32) (row : Nat → Int32) : ht_S8 b 0 (ht_w0, row, 0) := ⟨rfl, rfl, fun q h => absurd h (by omega), row 0, rfl⟩
theorem ht_pl_n {n : Nat} (h : n < 2 ^ 31) : ht_pl (nI n) = nI (n % 64 / 4) := by
  unfold ht_pl
  rw [pk_andN (by omega) (m := 63) 6 (by decide)]
  exact pk_shrN (by omega) _ 2 (by decide)
theorem ht_S8.step {b : Nat → Int32} {n : Nat} {t : ht_D} (h : ht_S8 b n t) (hn : n + 1 < 2 ^ 31) : ht_S8 b (n + 1) (ht_tk t (b n)) := by
  obtain ⟨h1, h2, h3, x, h4⟩ := h
  have hpl : (ht_pl t.2.2).toNatClampNeg = n % 64 / 4 := by rw [h2, ht_pl_n (by omega), nI_clamp (by omega)]
  have htw : ht_tw t (b n) = upd t.2.1 (n % 64 / 4) (ht_sh8 b (64 * (n / 64) + 4 * (n % 64 / 4)) x (n % 4 + 1)) := by
    unfold ht_tw
    rw [hpl, h4]
    show _ = upd t.2.1 (n % 64 / 4) ((ht_sh8 b (64 * (n / 64) + 4 * (n % 64 / 4)) x (n % 4) <<< ((8 : Int32) &&& 31)) ||| (b (64 * (n / 64) + 4 * (n % 64 / 4) + n % 4) &&& 255))
    rw [show 64 * (n / 64) + 4 * (n % 64 / 4) + n % 4 = n by omega]
  have hlen : t.2.2 + 1 = nI (n + 1) := by rw [h2, nI_1]
  have hc : ((t.2.2 + 1) &&& 63 = 0) ↔ (n + 1) % 64 = 0 := by
    rw [hlen, pk_andN (by omega) (m := 63) 6 (by decide), show (0 : Int32) = nI 0 from rfl, nI_eq (by omega) (by omega)]
  unfold ht_tk
  by_cases hz : (n + 1) % 64 = 0
  · rw [if_pos (hc.mpr hz)]
    refine ⟨?_, hlen, fun q hq => absurd hq (by omega), ht_sp 48 (ht_tw t (b n)) ((n + 1) % 64 / 4), ?_⟩
    · rw [show (n + 1) / 64 = n / 64 + 1 by omega]
      show ht_bl t.1 (ht_tw t (b n)) = ht_bl (ht_sw b (n / 64)) _
      rw [h1]
      refine ht_bl_cg (fun q hq => ?_)
      rw [htw]
      by_cases e : q = n % 64 / 4
      · subst e
        rw [pk_us, show n % 4 + 1 = 4 by omega, ht_sh8_4]
      · rw [pk_un e]
        exact h3 q (by omega)
    · show _ = ht_sh8 b _ _ ((n + 1) % 4)
      rw [show (n + 1) % 4 = 0 by omega]
      rfl
  · rw [if_neg (fun q => hz (hc.mp q))]
    have e1 : (n + 1) / 64 = n / 64 := by omega
    refine ⟨by rw [e1]; exact h1, hlen, fun q hq => ?_, ?_⟩
    · rw [e1]
      show ht_tw t (b n) q = _
      rw [htw]
      by_cases e : q = n % 64 / 4
      · subst e
        rw [pk_us, show n % 4 + 1 = 4 by omega, ht_sh8_4]
      · rw [pk_un e]
        exact h3 q (by omega)
    · rw [e1]
      show ∃ y, ht_tw t (b n) ((n + 1) % 64 / 4) = _
      rw [htw]
      by_cases e : n % 4 = 3
      · refine ⟨t.2.1 ((n + 1) % 64 / 4), ?_⟩
        rw [pk_un (by omega), show (n + 1) % 4 = 0 by omega]
        rfl
      · refine ⟨x, ?_⟩
        rw [show (n + 1) % 64 / 4 = n % 64 / 4 by omega, pk_us, show (n + 1) % 4 = n % 4 + 1 by omega]
theorem ht_sw_cg {b b' : Nat → Int32} : ∀ j, (∀ i, i < 64 * j → b i = b' i) → ht_sw b j = ht_sw b' j := by
  intro j
  induction j with
  | zero => intro _; rfl
  | succ j ih =>
    intro h
    unfold ht_sw
    rw [ih (fun i hi => h i (by omega))]
    refine ht_bl_cg (fun t ht => ?_)
    unfold ht_c4
    rw [h (64 * j + 4 * t) (by omega), h (64 * j + 4 * t + 1) (by omega), h (64 * j + 4 * t + 2) (by omega), h (64 * j + 4 * t + 3) (by omega)]
theorem ht_sh8_cg {b b' : Nat → Int32} {i : Nat} {x : Int32} : ∀ r, (∀ j, j < i + r → b j = b' j) → ht_sh8 b i x r = ht_sh8 b' i x r := by
  intro r
  induction r with
  | zero => intro _; rfl
  | succ r ih =>
    intro h
    unfold ht_sh8
    rw [ih (fun j hj => h j (by omega)), h (i + r) (by omega)]
theorem ht_S8.cg {b b' : Nat → Int32} {n : Nat} {t : ht_D} (h : ht_S8 b n t) (hb : ∀ i, i < n → b i = b' i) : ht_S8 b' n t := by
  obtain ⟨h1, h2, h3, x, h4⟩ := h
  refine ⟨by rw [h1]; exact ht_sw_cg _ (fun i hi => hb i (by omega)), h2, fun q hq => ?_, x, ?_⟩
  · rw [h3 q hq]
    unfold ht_c4
    rw [hb _ (by omega), hb _ (by omega), hb _ (by omega), hb _ (by omega)]
  · rw [h4]
    exact ht_sh8_cg _ (fun j hj => hb j (by omega))
theorem ht_S8.tl {b : Nat → Int32} {x : Int64} : ∀ (m n : Nat) (t : ht_D), ht_S8 b n t → n + m < 2 ^ 31 → (∀ i, i < m → b (n + i) = ht_by x (m - 1 - i)) → ht_S8 b (n + m) (ht_tl t x m) := by
  intro m
  induction m with
  | zero => intro n t h _ _; exact h
  | succ m ih =>
    intro n t h hn hb
    have h0 := hb 0 (by omega)
    rw [Nat.add_zero, show m + 1 - 1 - 0 = m by omega] at h0
    have h1 := h.step (by omega)
    rw [h0] at h1
    have := ih (n + 1) _ h1 (by omega) (fun i hi => by
      have := hb (i + 1) (by omega)
      rw [show n + (i + 1) = n + 1 + i by omega, show m + 1 - 1 - (i + 1) = m - 1 - i by omega] at this
      exact this)
    rw [show n + (m + 1) = n + 1 + m by omega]
    exact this
theorem ht_S8.tz {b : Nat → Int32} : ∀ (m n : Nat) (t : ht_D), ht_S8 b n t → n + m < 2 ^ 31 → (∀ i, i < m → b (n + i) = 0) → ht_S8 b (n + m) (ht_tz t m) := by
  intro m
  induction m with
  | zero => intro n t h _ _; exact h
  | succ m ih =>
    intro n t h hn hb
    have h1 := h.step (by omega)
    rw [show b n = 0 from hb 0 (by omega)] at h1
    have := ih (n + 1) _ h1 (by omega) (fun i hi => by
      have := hb (i + 1) (by omega)
      rw [show n + (i + 1) = n + 1 + i by omega] at this
      exact this)
    rw [show n + (m + 1) = n + 1 + m by omega]
    exact this
/-- a row of n bytes with what comes behind it -/
def ht_pad (b : Nat → Int32) (n : Nat) : Nat → Int32 := fun i => if i < n then b i else if i = n then 128 else if i < 64 * ((n + 72) / 64) - 8 then 0 else ht_by ((8 : Int64) * (nI n).toInt64) (64 * ((n + 72) / 64) - 1 - i)
theorem ht_zs {n : Nat} (h : n < 2 ^ 31) : (((56 : Int32) - nI (n + 1)) &&& 63).toNatClampNeg = 64 * ((n + 72) / 64) - 8 - (n + 1) := by
  rw [pk_and _ (m := 63) 6 (by decide), nI_clamp (by omega)]
  have e : ((56 : Int32) - nI (n + 1)).toBitVec.toNat = (2 ^ 32 - (n + 1) + 56) % 2 ^ 32 := by
    rw [Int32.toBitVec_sub, BitVec.toNat_sub, pk_tn (by omega)]
    rfl
  rw [e]
  omega
theorem ht_fi_sw {b : Nat → Int32} {n : Nat} {t : ht_D} (h : ht_S8 b n t) (hn : n ≤ 4000) : (ht_fi t).1 = ht_sw (ht_pad b n) ((n + 72) / 64) := by
  have h0 := h.cg (b' := ht_pad b n) (fun i hi => by unfold ht_pad; rw [if_pos hi])
  have h1 := h0.step (by omega)
  rw [show ht_pad b n n = 128 by unfold ht_pad; rw [if_neg (Nat.lt_irrefl n), if_pos rfl]] at h1
  have hl : (ht_tk t 128).2.2 = nI (n + 1) := h1.2.1
  have h2 := ht_S8.tz (64 * ((n + 72) / 64) - 8 - (n + 1)) (n + 1) _ h1 (by omega) (fun i hi => by
    unfold ht_pad
    rw [if_neg (by omega), if_neg (by omega), if_pos (by omega)])
  rw [show n + 1 + (64 * ((n + 72) / 64) - 8 - (n + 1)) = 64 * ((n + 72) / 64) - 8 by omega] at h2
  have h3 := ht_S8.tl (x := (8 : Int64) * (nI n).toInt64) 8 (64 * ((n + 72) / 64) - 8) _ h2 (by omega) (fun i hi => by
    unfold ht_pad
    rw [if_neg (by omega), if_neg (by omega), if_neg (by omega)]
    congr 1
    omega)
  have e : ht_fi t = ht_tl (ht_tz (ht_tk t 128) (64 * ((n + 72) / 64) - 8 - (n + 1))) ((8 : Int64) * (nI n).toInt64) 8 := by
    unfold ht_fi
    rw [hl, ht_zs (by omega), h.2.1]
  rw [e, h3.1]
  congr 1
  omega
end
section
/-! The digest of a byte and two rows. -/
def ht_jb (mk : Int32) (lf rf : Nat → Int64) : Nat → Int32 := fun i => if i = 0 then mk else if i < 33 then ht_by (lf ((i - 1) / 8)) (7 - (i - 1) % 8) else ht_by (rf ((i - 33) / 8)) (7 - (i - 33) % 8)
theorem ht_S8.ts {b : Nat → Int32} {f : Nat → Int64} {n : Nat} {t : ht_D} (h : ht_S8 b n t) (hn : n ≤ 4000) : ∀ k, k ≤ 4 → (∀ j i, j < k → i < 8 → b (n + 8 * j + i) = ht_by (f j) (7 - i)) → ht_S8 b (n + 8 * k) (ht_ts t f k) := by
  intro k
  induction k with
  | zero => intro _ _; exact h
  | succ k ih =>
    intro hk hb
    have h1 := ih (by omega) (fun j i hj hi => hb j i (by omega) hi)
    have h2 := ht_S8.tl (x := f k) 8 (n + 8 * k) _ h1 (by omega) (fun i hi => hb k i (by omega) hi)
    rw [show n + 8 * (k + 1) = n + 8 * k + 8 by omega]
    exact h2
theorem ht_jt_sw (row : Nat → Int32) (mk : Int32) (lf rf : Nat → Int64) : (ht_jt row mk lf rf).1 = ht_sw (ht_pad (ht_jb mk lf rf) 65) 2 := by
  have h0 := (ht_S8.start (ht_jb mk lf rf) row).step (by omega)
  rw [show ht_jb mk lf rf 0 = mk from rfl] at h0
  have h1 := ht_S8.ts (f := lf) h0 (by omega) 4 (Nat.le_refl 4) (fun j i hj hi => by
    unfold ht_jb
    rw [if_neg (by omega), if_pos (by omega), show (0 + 1 + 8 * j + i - 1) / 8 = j by omega, show (0 + 1 + 8 * j + i - 1) % 8 = i by omega])
  have h2 := ht_S8.ts (f := rf) h1 (by omega) 4 (Nat.le_refl 4) (fun j i hj hi => by
    unfold ht_jb
    rw [if_neg (by omega), if_neg (by omega), show (0 + 1 + 8 * 4 + 8 * j + i - 33) / 8 = j by omega, show (0 + 1 + 8 * 4 + 8 * j + i - 33) % 8 = i by omega])
  have h3 := ht_fi_sw h2 (by omega)
  exact h3
def ht_dgf (mk : Int32) (a b : ht_K) : ht_K := ht_kn (ht_sw (ht_pad (ht_jb mk (ht_kf a) (ht_kf b)) 65) 2)
theorem ht_jt_dgf (row : Nat → Int32) (mk : Int32) (a b : ht_K) : ht_kn (ht_jt row mk (ht_kf a) (ht_kf b)).1 = ht_dgf mk a b := by
  unfold ht_dgf
  rw [ht_jt_sw]
/-- the hash at levels above a branch: j levels up -/
def ht_chn (k : ht_K) (lv : Nat) (h0 : ht_K) : Nat → ht_K
  | 0 => h0
  | j + 1 => if ht_bit k (lv - 1 - j) then ht_dgf 1 ht_kz (ht_chn k lv h0 j) else ht_dgf 1 (ht_chn k lv h0 j) ht_kz
theorem ht_T.hash_cv {N : ht_N} {F : List Nat} {top : Option Nat} {l : ht_L} (h : ht_T N F top l) {a : Nat} (ha : a ∈ F) {zo : Nat × Nat} (hp : ht_rp (N a) = .inr zo) {hz ho : ht_K} (h1 : hz = ht_h ht_dgf (255 - ht_rl (N a)) (ht_U N l zo.1)) (h2 : ho = ht_h ht_dgf (255 - ht_rl (N a)) (ht_U N l zo.2)) : ∀ j, j ≤ ht_rl (N a) → ht_chn (ht_rk (N a)) (ht_rl (N a)) (ht_dgf 1 hz ho) j = ht_h ht_dgf (256 - (ht_rl (N a) - j)) (ht_U N l a) := by
  intro j
  induction j with
  | zero =>
    intro _
    show ht_dgf 1 hz ho = _
    rw [Nat.sub_zero, h.hash_b ht_dgf ha hp, h1, h2]
  | succ j ih =>
    intro hj
    have hlt := (h.half ha hp false).2.1
    unfold ht_chn
    rw [ih (by omega), show ht_rl (N a) - (j + 1) = ht_rl (N a) - 1 - j by omega, h.hash_c ht_dgf ha hp (d := ht_rl (N a) - 1 - j) (by omega), show 255 - (ht_rl (N a) - 1 - j) = 256 - (ht_rl (N a) - j) by omega]
theorem ht_dw_up {g : ht_G} {w : ht_W} {dg wd wa ia : Nat} {t : ht_D} {e : va_E} (h1 : ia ≠ dg) (h2 : ia ≠ wd) (h3 : ia ≠ wa) : ht_dw g (ht_up w ia e) dg wd wa t = ht_up (ht_dw g w dg wd wa t) ia e := by
  unfold ht_dw
  rw [ht_up_comm h1, ht_up_comm h2, ht_up_comm h3]
theorem ht_xl {x : Int32} {a : Nat} (h : x + 1 = nI a) (ha : a < 2 ^ 31) : x < nI a := by
  cases a with
  | zero => exact ht_j0 h
  | succ a =>
    rw [ht_js h]
    exact nI_lt (by omega) ha
end
section
set_option maxHeartbeats 4000000 in
set_option maxRecDepth 100000 in
theorem c_X_hashAt_L (l : Launch) (g : ht_G) (w : ht_W) {x kA dg wd wa op sb la en : Nat} {top : Option Nat} {cnt ei : Int32} {N : ht_N} {A : ht_AA} {F : List Nat} {L : ht_L} {dt : ht_D} (hX : ht_at w x (.inr (0, [.ref kA, .ref dg, .ref op, va_rf top, .int cnt, .ref sb, .ref la, .ref en, .int ei]))) (hDg : ht_Dg g w dg wd wa dt) (hN : ht_Nd g w N A F) (hT : ht_T N F top L) {a ia : Nat} (ha : a ∈ F) {f0 : Nat → Int64} (hI : ht_at w ia (ht_al g 4 f0)) (hne : (A a).1 ≠ ia) {v : ht_K} (hp : ht_rp (N a) = .inl v) (lv : Int32) : Met l y_X_hashAt ws_X_hashAt ({ frames := 5, cells := 0, slots := 0, locals := 150 } : Room) (va_Pc [.ref x, .ref a, .int lv, .ref ia] (ht_WS g w)) (ht_Qv g (fun u => ∃ dt' : ht_D, u = ht_up (ht_dw g w dg wd wa dt') ia (ht_al g 4 (ht_kf (ht_dgf 0 (ht_rk (N a)) v))))) 0 0 (ht_A g) := by
  refine Met.ofW (cc := b_X_hashAt) (maxL := 8) (ret := none) (by decide) rfl ?_
  intro p e s m args below meth c s₁ BB hml hv
  obtain ⟨rfl, HW⟩ := hv
  have HW := ht_I.start HW
  have hx := BB.exec
  have hb := BB.bytes
  have hr := BB.returns
  have hts := atoms_spec (ws := ws_X_hashAt) BB.pre
  have htb : ∀ w ∈ bg, w.before _ s = true := fun w h => hts w (List.mem_cons_of_mem _ h)
  have hown : s.vm.findClass R_X = some m.cls := findClass_of_methodNamed BB.named
  have hlocks := BB.notSynchronized
  have hl := lv_entry ([.ref x, .ref a, .int lv, .ref ia]) (n := 8) (Nat.le_of_ble_eq_true rfl)
  rw [lg_entry_eq]
  generalize (lg_sl ([.ref x, .ref a, .int lv, .ref ia]) ++ List.replicate (8 - (lg_sl ([.ref x, .ref a, .int lv, .ref ia])).length) Slot.unset).toArray = ls at hl ⊢
  have hl : lv_has ls 8 [(0, .ref x), (1, .ref a), (2, .int lv), (3, .ref ia)] := hl
  have hla := hN.lf ha hp
  have hDg1 := hDg.1
  have hka := (hN a ha).2.1
  have hva := (hN a ha).2.2.2 v hp
  refine lv_aload_n hx hb d_X_hashAt_0 rfl (lv_at hl 1 rfl) ?_
  refine va_instS hx hb hown (htb _ wd_95) (HW.2.1.1 2 _ rfl).2 (HW.recv hla (q := (R_L, F_L, 5)) rfl) d_X_hashAt_1 ?_
  refine lv_if_eq (tgt := 35) hx hb d_X_hashAt_4 (by decide) (fun c4 => ?_) (fun c4 => ?_)
  · exact absurd c4 (by decide)
  · refine lv_aload_n hx hb d_X_hashAt_7 rfl (lv_at hl 1 rfl) ?_
    refine va_castS hx hb hown (htb _ wd_95) (HW.2.1.1 2 _ rfl).2 (HW.recv hla (q := (R_L, F_L, 5)) rfl) d_X_hashAt_8 ?_
    refine lv_astore (lv' := [(4, .ref a), (0, .ref x), (1, .ref a), (2, .int lv), (3, .ref ia)]) hx hb d_X_hashAt_11 hl (by decide) rfl (fun ls hl => ?_)
    refine lv_aload_n hx hb d_X_hashAt_13 rfl (lv_at hl 1 rfl) ?_
    refine ht_get (C := R_X) (T := F_X) (N := 9) (v := .ref dg) hx hb htb i_X hown HW hX rfl 1 (by decide) (htb _ wd_41) (fun _ h9 => h9) rfl d_X_hashAt_14 ?_
    refine lv_iconst (v := 0) hx hb d_X_hashAt_17 (by decide) ?_
    refine lv_aload hx hb d_X_hashAt_18 (lv_at hl 0 rfl) ?_
    refine ht_get (C := R_L) (T := F_L) (N := 5) (v := .ref (A a).1) hx hb htb i_L hown HW hla rfl 0 (by decide) (htb _ wd_128) (fun x h9 => u_same (htb _ wd_129) x h9) rfl d_X_hashAt_20 ?_
    refine lv_aload hx hb d_X_hashAt_23 (lv_at hl 0 rfl) ?_
    refine ht_get (C := R_L) (T := F_L) (N := 5) (v := .ref (A a).2.2) hx hb htb i_L hown HW hla rfl 4 (by decide) (htb _ wd_126) (fun _ h9 => h9) rfl d_X_hashAt_25 ?_
    refine lv_aload_n hx hb d_X_hashAt_28 rfl (lv_at hl 4 rfl) ?_
    refine ht_cv HW (va_runV (own := R_X) (C := R_D) (As := [.int 0, .ref (A a).1, .ref (A a).2.2, .ref ia]) (rest := []) ⟨hx, hb, hml, hown, htb⟩ (c_D_join l g w hDg 0 (Or.inl hka) (Or.inl hva) hI) (cwV 4 htb (ht_gv wd_221 wd_222 wd_223 wd_2 g_D_join) rfl rfl rfl (by decide +kernel) ⟨Nat.le_of_ble_eq_true rfl, Nat.le_of_ble_eq_true rfl⟩) (HW.preV hDg1 rfl _) rfl rfl hl.1 rfl (lv_room (Nat.le_of_ble_eq_true rfl)) d_X_hashAt_29 ⟨Nat.le_of_ble_eq_true rfl, Nat.le_of_ble_eq_true rfl⟩) (fun u1 H locs pj HW => ?_)
    refine lv_goto (tgt := 139) hx hb d_X_hashAt_32 (by decide) ?_
    exact ht_vret hx hb hr hlocks HW ⟨_, by rw [pj, ht_jt_dgf]⟩ d_X_hashAt_139
set_option maxHeartbeats 4000000 in
set_option maxRecDepth 100000 in
theorem c_X_hashAt_B (l : Launch) (g : ht_G) (w : ht_W) {x kA dg wd wa op sb la en : Nat} {top : Option Nat} {cnt ei : Int32} {N : ht_N} {A : ht_AA} {F : List Nat} {L : ht_L} {dt : ht_D} (hX : ht_at w x (.inr (0, [.ref kA, .ref dg, .ref op, va_rf top, .int cnt, .ref sb, .ref la, .ref en, .int ei]))) (hDg : ht_Dg g w dg wd wa dt) (hN : ht_Nd g w N A F) (hT : ht_T N F top L) {a ia : Nat} (ha : a ∈ F) {f0 : Nat → Int64} (hI : ht_at w ia (ht_al g 4 f0)) (hne : (A a).1 ≠ ia) {zo : Nat × Nat} (hp : ht_rp (N a) = .inr zo) (d : Nat) (hd : d ≤ ht_rl (N a)) (lv : Int32) (elv : lv = nI d) : Met l y_X_hashAt ws_X_hashAt ({ frames := 5, cells := 0, slots := 0, locals := 150 } : Room) (va_Pc [.ref x, .ref a, .int lv, .ref ia] (ht_WS g w)) (ht_Qv g (fun u => ∃ dt' : ht_D, u = ht_up (ht_dw g w dg wd wa dt') ia (ht_al g 4 (ht_kf (ht_chn (ht_rk (N a)) (ht_rl (N a)) (ht_dgf 1 (ht_rh (N zo.1)) (ht_rh (N zo.2))) (ht_rl (N a) - d)))))) 0 0 (ht_A g) := by
  refine Met.ofW (cc := b_X_hashAt) (maxL := 8) (ret := none) (by decide) rfl ?_
  intro p e s m args below meth c s₁ BB hml hv
  obtain ⟨rfl, HW⟩ := hv
  have HW := ht_I.start HW
  have hx := BB.exec
  have hb := BB.bytes
  have hr := BB.returns
  have hts := atoms_spec (ws := ws_X_hashAt) BB.pre
  have htb : ∀ w ∈ bg, w.before _ s = true := fun w h => hts w (List.mem_cons_of_mem _ h)
  have hown : s.vm.findClass R_X = some m.cls := findClass_of_methodNamed BB.named
  have hlocks := BB.notSynchronized
  have hl := lv_entry ([.ref x, .ref a, .int lv, .ref ia]) (n := 8) (Nat.le_of_ble_eq_true rfl)
  rw [lg_entry_eq]
  generalize (lg_sl ([.ref x, .ref a, .int lv, .ref ia]) ++ List.replicate (8 - (lg_sl ([.ref x, .ref a, .int lv, .ref ia])).length) Slot.unset).toArray = ls at hl ⊢
  have hl : lv_has ls 8 [(0, .ref x), (1, .ref a), (2, .int lv), (3, .ref ia)] := hl
  have hlt := (hT.half ha hp false).2.1
  have hx1 : x ≠ dg := ht_ne hX hDg.1 (fun z9 => by cases z9)
  have hx2 : x ≠ wd := ht_ne hX hDg.2.1 ht_ne_oi
  have hx3 : x ≠ wa := ht_ne hX hDg.2.2 ht_ne_oi
  have hx4 : x ≠ ia := (ht_ne_lo hI hX).symm
  have ha1 : a ≠ dg := ht_ne (hN.br ha hp) hDg.1 (fun z9 => by cases z9)
  have ha2 : a ≠ wd := ht_ne (hN.br ha hp) hDg.2.1 ht_ne_oi
  have ha3 : a ≠ wa := ht_ne (hN.br ha hp) hDg.2.2 ht_ne_oi
  have ha4 : a ≠ ia := (ht_ne_lo hI (hN.br ha hp)).symm
  have hn1 : ia ≠ dg := ht_ne_lo hI hDg.1
  have hn2 : ia ≠ wd := ht_ne hI hDg.2.1 ht_ne_li
  have hn3 : ia ≠ wa := ht_ne hI hDg.2.2 ht_ne_li
  have loop : ∀ (n j : Nat), j + n = ht_rl (N a) - d → ∀ (dj : ht_D) (H : Heap) (locs : List Loc) (ls : Array Slot) (y : Int32), y + 1 = nI (ht_rl (N a) - j) → ht_I g s (ht_up (ht_dw g w dg wd wa dj) ia (ht_al g 4 (ht_kf (ht_chn (ht_rk (N a)) (ht_rl (N a)) (ht_dgf 1 (ht_rh (N zo.1)) (ht_rh (N zo.2))) j)))) H locs → lv_has ls 8 [(0, .ref x), (2, .int lv), (3, .ref ia), (5, .ref a), (6, .int y)] → W p l e (headSpec ws_X_hashAt ({ frames := 5, cells := 0, slots := 0, locals := 150 } : Room)).room s m ([.ref x, .ref a, .int lv, .ref ia] : List Value).toArray below meth c H locs 0 0 (MQ below (ht_Qv g (fun u => ∃ dt' : ht_D, u = ht_up (ht_dw g w dg wd wa dt') ia (ht_al g 4 (ht_kf (ht_chn (ht_rk (N a)) (ht_rl (N a)) (ht_dgf 1 (ht_rh (N zo.1)) (ht_rh (N zo.2))) (ht_rl (N a) - d)))))) ([.ref x, .ref a, .int lv, .ref ia] : List Value).toArray s 0 0 (ht_A g)) (F0 m 82 ls []) := by
    intro n
    induction n with
    | zero =>
      intro j hj dj H locs ls y ey HW hl
      obtain ⟨w1, hw1⟩ : ∃ zW : ht_W, zW = (ht_up (ht_dw g w dg wd wa dj) ia (ht_al g 4 (ht_kf (ht_chn (ht_rk (N a)) (ht_rl (N a)) (ht_dgf 1 (ht_rh (N zo.1)) (ht_rh (N zo.2))) j)))) := ⟨_, rfl⟩
      rw [← hw1] at HW
      have hD1 : ht_Dg g w1 dg wd wa dj := by rw [hw1]; exact hDg.up.of_al (hDg.al hI)
      have hI1 : ht_at w1 ia (ht_al g 4 (ht_kf (ht_chn (ht_rk (N a)) (ht_rl (N a)) (ht_dgf 1 (ht_rh (N zo.1)) (ht_rh (N zo.2))) j))) := by rw [hw1]; exact ht_at_self (hDg.al hI)
      have hX : ht_at w1 x (.inr (0, [.ref kA, .ref dg, .ref op, va_rf top, .int cnt, .ref sb, .ref la, .ref en, .int ei]) : va_E) := by rw [hw1]; exact ht_at_ne (ht_Dg.ne hX hx1 hx2 hx3) hx4
      have hla : ht_at w1 a (.inr (3, [.ref (A a).1, .int (nI (ht_rl (N a))), .ref (A a).2.1, .int (ht_b1 (ht_rf (N a))), .ref zo.1, .ref zo.2]) : va_E) := by rw [hw1]; exact ht_at_ne (ht_Dg.ne (hN.br ha hp) ha1 ha2 ha3) ha4
      have hkr : ht_at w1 (A a).1 (ht_al g 4 (ht_kf (ht_rk (N a)))) := by rw [hw1]; exact ht_at_ne (hDg.al (hN a ha).2.1) hne
      refine lv_iload hx hb d_X_hashAt_82 (lv_at hl 4 rfl) ?_
      refine lv_iload_n hx hb d_X_hashAt_84 rfl (lv_at hl 1 rfl) ?_
      refine lv_icmp_lt (tgt := 139) hx hb d_X_hashAt_85 (by decide) (fun c85 => ?_) (fun c85 => ?_)
      · exact ht_vret hx hb hr hlocks HW ⟨dj, by rw [hw1, show ht_rl (N a) - d = j by omega]⟩ d_X_hashAt_139
      · exact absurd (by rw [elv, ← show ht_rl (N a) - j = d by omega]; exact ht_xl ey (by omega)) c85
    | succ n ih =>
      intro j hj dj H locs ls y ey HW hl
      obtain ⟨w1, hw1⟩ : ∃ zW : ht_W, zW = (ht_up (ht_dw g w dg wd wa dj) ia (ht_al g 4 (ht_kf (ht_chn (ht_rk (N a)) (ht_rl (N a)) (ht_dgf 1 (ht_rh (N zo.1)) (ht_rh (N zo.2))) j)))) := ⟨_, rfl⟩
      rw [← hw1] at HW
      have hD1 : ht_Dg g w1 dg wd wa dj := by rw [hw1]; exact hDg.up.of_al (hDg.al hI)
      have hI1 : ht_at w1 ia (ht_al g 4 (ht_kf (ht_chn (ht_rk (N a)) (ht_rl (N a)) (ht_dgf 1 (ht_rh (N zo.1)) (ht_rh (N zo.2))) j))) := by rw [hw1]; exact ht_at_self (hDg.al hI)
      have hX : ht_at w1 x (.inr (0, [.ref kA, .ref dg, .ref op, va_rf top, .int cnt, .ref sb, .ref la, .ref en, .int ei]) : va_E) := by rw [hw1]; exact ht_at_ne (ht_Dg.ne hX hx1 hx2 hx3) hx4
      have hla : ht_at w1 a (.inr (3, [.ref (A a).1, .int (nI (ht_rl (N a))), .ref (A a).2.1, .int (ht_b1 (ht_rf (N a))), .ref zo.1, .ref zo.2]) : va_E) := by rw [hw1]; exact ht_at_ne (ht_Dg.ne (hN.br ha hp) ha1 ha2 ha3) ha4
      have hkr : ht_at w1 (A a).1 (ht_al g 4 (ht_kf (ht_rk (N a)))) := by rw [hw1]; exact ht_at_ne (hDg.al (hN a ha).2.1) hne
      have ey1 : y = nI (ht_rl (N a) - 1 - j) := ht_js (by rw [ey]; congr 1; omega)
      refine lv_iload hx hb d_X_hashAt_82 (lv_at hl 4 rfl) ?_
      refine lv_iload_n hx hb d_X_hashAt_84 rfl (lv_at hl 1 rfl) ?_
      refine lv_icmp_lt (tgt := 139) hx hb d_X_hashAt_85 (by decide) (fun c85 => ?_) (fun c85 => ?_)
      · exact absurd (by rw [elv, ey1] at c85; exact c85) (nI_nlt (show d ≤ ht_rl (N a) - 1 - j by omega) (by omega))
      · refine lv_aload hx hb d_X_hashAt_88 (lv_at hl 3 rfl) ?_
        refine ht_get (C := R_B) (T := F_B) (N := 6) (v := .ref (A a).1) hx hb htb i_B hown HW hla rfl 0 (by decide) (htb _ wd_130) (fun x h9 => u_same (htb _ wd_131) x h9) rfl d_X_hashAt_90 ?_
        refine lv_iload hx hb d_X_hashAt_93 (lv_at hl 4 rfl) ?_
        refine ht_ci HW (va_runS (own := R_X) (As := [.ref (A a).1, .int y]) (rest := []) ⟨hx, hb, hml, hown, htb⟩ (c_X_isOne l g w1 hkr (ht_rl (N a) - 1 - j) (by omega) _ ey1) (va_cwS 2 htb (ht_gs wd_88 wd_89 wd_1 g_X_isOne) rfl rfl rfl (by decide +kernel) ⟨Nat.le_of_ble_eq_true rfl, Nat.le_of_ble_eq_true rfl⟩) (HW.preS _) rfl rfl hl.1 rfl (lv_room (Nat.le_of_ble_eq_true rfl)) d_X_hashAt_95 ⟨Nat.le_of_ble_eq_true rfl, Nat.le_of_ble_eq_true rfl⟩) (fun q2 u1 H locs pu1 HW => ?_)
        obtain ⟨eq2, eu1⟩ := pu1
        subst eu1
        rw [eq2]
        cases hbit : ht_bit (ht_rk (N a)) (ht_rl (N a) - 1 - j)
        · refine W.eq (g2 := F0 _ 98 ls [.int 0]) rfl ?_
          refine lv_istore (lv' := [(7, .int 0), (0, .ref x), (2, .int lv), (3, .ref ia), (5, .ref a), (6, .int y)]) hx hb d_X_hashAt_98 hl (by decide) rfl (fun ls hl => ?_)
          refine lv_aload_n hx hb d_X_hashAt_100 rfl (lv_at hl 1 rfl) ?_
          refine ht_get (C := R_X) (T := F_X) (N := 9) (v := .ref dg) hx hb htb i_X hown HW hX rfl 1 (by decide) (htb _ wd_41) (fun _ h9 => h9) rfl d_X_hashAt_101 ?_
          refine lv_iconst (v := 1) hx hb d_X_hashAt_104 (by decide) ?_
          refine lv_iload hx hb d_X_hashAt_105 (lv_at hl 0 rfl) ?_
          refine lv_if_eq (tgt := 116) hx hb d_X_hashAt_107 (by decide) (fun c107 => ?_) (fun c107 => ?_)
          · refine lv_aload_n hx hb d_X_hashAt_116 rfl (lv_at hl 3 rfl) ?_
            refine lv_iload hx hb d_X_hashAt_117 (lv_at hl 0 rfl) ?_
            refine lv_if_eq (tgt := 126) hx hb d_X_hashAt_119 (by decide) (fun c119 => ?_) (fun c119 => ?_)
            · refine ht_gets hx hb HW.2.2.1.1 HW hown (htb _ wd_265) (fun _ h9 => h9) d_X_hashAt_126 ?_
              refine lv_aload_n hx hb d_X_hashAt_129 rfl (lv_at hl 3 rfl) ?_
              refine ht_cv HW (va_runV (own := R_X) (C := R_D) (As := [.int 1, .ref ia, .ref (g.2.2.2 0), .ref ia]) (rest := []) ⟨hx, hb, hml, hown, htb⟩ (c_D_join l g w1 hD1 1 (lf := ht_kf (ht_chn (ht_rk (N a)) (ht_rl (N a)) (ht_dgf 1 (ht_rh (N zo.1)) (ht_rh (N zo.2))) j)) (rf := ht_kf ht_kz) (Or.inl hI1) (Or.inr ⟨rfl, fun j9 _ => by rw [ht_kf_z]⟩) hI1) (cwV 4 htb (ht_gv wd_221 wd_222 wd_223 wd_2 g_D_join) rfl rfl rfl (by decide +kernel) ⟨Nat.le_of_ble_eq_true rfl, Nat.le_of_ble_eq_true rfl⟩) (HW.preV hD1.1 rfl _) rfl rfl hl.1 rfl (lv_room (Nat.le_of_ble_eq_true rfl)) d_X_hashAt_130 ⟨Nat.le_of_ble_eq_true rfl, Nat.le_of_ble_eq_true rfl⟩) (fun u3 H locs pj HW => ?_)
              obtain ⟨y2, ey2⟩ : ∃ zI : Int32, zI = y + (-1) := ⟨_, rfl⟩
              refine lv_iinc (v := y2) (lv' := [(6, .int y2), (7, .int 0), (0, .ref x), (2, .int lv), (3, .ref ia), (5, .ref a)]) hx hb d_X_hashAt_133 hl (k := 5) rfl (by rw [ey2]; rfl) (by decide) rfl (fun ls hl => ?_)
              refine lv_goto (tgt := 82) hx hb d_X_hashAt_136 (by decide) ?_
              refine ih (j + 1) (by omega) (ht_jt dj.2.1 1 (ht_kf (ht_chn (ht_rk (N a)) (ht_rl (N a)) (ht_dgf 1 (ht_rh (N zo.1)) (ht_rh (N zo.2))) j)) (ht_kf ht_kz)) _ _ _ y2 (by rw [ey2, ey1, ht_c1]; congr 1; omega) (HW.to ?_) (lv_sub hl [2, 3, 4, 5, 0] rfl)
              · rw [pj, hw1, ht_dw_up hn1 hn2 hn3, hDg.dw, ht_up_up, ht_jt_dgf]
                show _ = ht_up (ht_dw g w dg wd wa _) ia (ht_al g 4 (ht_kf (if ht_bit (ht_rk (N a)) (ht_rl (N a) - 1 - j) then ht_dgf 1 ht_kz (ht_chn (ht_rk (N a)) (ht_rl (N a)) (ht_dgf 1 (ht_rh (N zo.1)) (ht_rh (N zo.2))) j) else ht_dgf 1 (ht_chn (ht_rk (N a)) (ht_rl (N a)) (ht_dgf 1 (ht_rh (N zo.1)) (ht_rh (N zo.2))) j) ht_kz)))
                rw [hbit]
                rfl
            · exact absurd rfl c119
          · exact absurd rfl c107
        · refine W.eq (g2 := F0 _ 98 ls [.int 1]) rfl ?_
          refine lv_istore (lv' := [(7, .int 1), (0, .ref x), (2, .int lv), (3, .ref ia), (5, .ref a), (6, .int y)]) hx hb d_X_hashAt_98 hl (by decide) rfl (fun ls hl => ?_)
          refine lv_aload_n hx hb d_X_hashAt_100 rfl (lv_at hl 1 rfl) ?_
          refine ht_get (C := R_X) (T := F_X) (N := 9) (v := .ref dg) hx hb htb i_X hown HW hX rfl 1 (by decide) (htb _ wd_41) (fun _ h9 => h9) rfl d_X_hashAt_101 ?_
          refine lv_iconst (v := 1) hx hb d_X_hashAt_104 (by decide) ?_
          refine lv_iload hx hb d_X_hashAt_105 (lv_at hl 0 rfl) ?_
          refine lv_if_eq (tgt := 116) hx hb d_X_hashAt_107 (by decide) (fun c107 => ?_) (fun c107 => ?_)
          · exact absurd c107 (by decide)
          · refine ht_gets hx hb HW.2.2.1.1 HW hown (htb _ wd_265) (fun _ h9 => h9) d_X_hashAt_110 ?_
            refine lv_goto (tgt := 117) hx hb d_X_hashAt_113 (by decide) ?_
            refine lv_iload hx hb d_X_hashAt_117 (lv_at hl 0 rfl) ?_
            refine lv_if_eq (tgt := 126) hx hb d_X_hashAt_119 (by decide) (fun c119 => ?_) (fun c119 => ?_)
            · exact absurd c119 (by decide)
            · refine lv_aload_n hx hb d_X_hashAt_122 rfl (lv_at hl 3 rfl) ?_
              refine lv_goto (tgt := 129) hx hb d_X_hashAt_123 (by decide) ?_
              refine lv_aload_n hx hb d_X_hashAt_129 rfl (lv_at hl 3 rfl) ?_
              refine ht_cv HW (va_runV (own := R_X) (C := R_D) (As := [.int 1, .ref (g.2.2.2 0), .ref ia, .ref ia]) (rest := []) ⟨hx, hb, hml, hown, htb⟩ (c_D_join l g w1 hD1 1 (lf := ht_kf ht_kz) (rf := ht_kf (ht_chn (ht_rk (N a)) (ht_rl (N a)) (ht_dgf 1 (ht_rh (N zo.1)) (ht_rh (N zo.2))) j)) (Or.inr ⟨rfl, fun j9 _ => by rw [ht_kf_z]⟩) (Or.inl hI1) hI1) (cwV 4 htb (ht_gv wd_221 wd_222 wd_223 wd_2 g_D_join) rfl rfl rfl (by decide +kernel) ⟨Nat.le_of_ble_eq_true rfl, Nat.le_of_ble_eq_true rfl⟩) (HW.preV hD1.1 rfl _) rfl rfl hl.1 rfl (lv_room (Nat.le_of_ble_eq_true rfl)) d_X_hashAt_130 ⟨Nat.le_of_ble_eq_true rfl, Nat.le_of_ble_eq_true rfl⟩) (fun u4 H locs pj HW => ?_)
              obtain ⟨y2, ey2⟩ : ∃ zI : Int32, zI = y + (-1) := ⟨_, rfl⟩
              refine lv_iinc (v := y2) (lv' := [(6, .int y2), (7, .int 1), (0, .ref x), (2, .int lv), (3, .ref ia), (5, .ref a)]) hx hb d_X_hashAt_133 hl (k := 5) rfl (by rw [ey2]; rfl) (by decide) rfl (fun ls hl => ?_)
              refine lv_goto (tgt := 82) hx hb d_X_hashAt_136 (by decide) ?_
              refine ih (j + 1) (by omega) (ht_jt dj.2.1 1 (ht_kf ht_kz) (ht_kf (ht_chn (ht_rk (N a)) (ht_rl (N a)) (ht_dgf 1 (ht_rh (N zo.1)) (ht_rh (N zo.2))) j))) _ _ _ y2 (by rw [ey2, ey1, ht_c1]; congr 1; omega) (HW.to ?_) (lv_sub hl [2, 3, 4, 5, 0] rfl)
              · rw [pj, hw1, ht_dw_up hn1 hn2 hn3, hDg.dw, ht_up_up, ht_jt_dgf]
                show _ = ht_up (ht_dw g w dg wd wa _) ia (ht_al g 4 (ht_kf (if ht_bit (ht_rk (N a)) (ht_rl (N a) - 1 - j) then ht_dgf 1 ht_kz (ht_chn (ht_rk (N a)) (ht_rl (N a)) (ht_dgf 1 (ht_rh (N zo.1)) (ht_rh (N zo.2))) j) else ht_dgf 1 (ht_chn (ht_rk (N a)) (ht_rl (N a)) (ht_dgf 1 (ht_rh (N zo.1)) (ht_rh (N zo.2))) j) ht_kz)))
                rw [hbit]
                rfl
  have hla := hN.br ha hp
  have hDg1 := hDg.1
  have hzF := (hT.half ha hp false).1
  have hoF := (hT.half ha hp true).1
  have hz := (hN zo.1 hzF).1
  have ho := (hN zo.2 hoF).1
  have hhz := (hN zo.1 hzF).2.2.1
  have hho := (hN zo.2 hoF).2.2.1
  refine lv_aload_n hx hb d_X_hashAt_0 rfl (lv_at hl 1 rfl) ?_
  refine va_instNo hx hb hown (htb _ wd_95) HW.2.2.1.2.2.2.2.2.2.2.2.1 (HW.recv hla (q := (R_B, F_B, 6)) rfl) d_X_hashAt_1 ?_
  refine lv_if_eq (tgt := 35) hx hb d_X_hashAt_4 (by decide) (fun c4 => ?_) (fun c4 => ?_)
  · refine lv_aload_n hx hb d_X_hashAt_35 rfl (lv_at hl 1 rfl) ?_
    refine va_instS hx hb hown (htb _ wd_87) (HW.2.1.1 3 _ rfl).2 (HW.recv hla (q := (R_B, F_B, 6)) rfl) d_X_hashAt_36 ?_
    refine lv_if_eq (tgt := 139) hx hb d_X_hashAt_39 (by decide) (fun c39 => ?_) (fun c39 => ?_)
    · exact absurd c39 (by decide)
    · refine lv_aload_n hx hb d_X_hashAt_42 rfl (lv_at hl 1 rfl) ?_
      refine va_castS hx hb hown (htb _ wd_87) (HW.2.1.1 3 _ rfl).2 (HW.recv hla (q := (R_B, F_B, 6)) rfl) d_X_hashAt_43 ?_
      refine lv_astore (lv' := [(5, .ref a), (0, .ref x), (1, .ref a), (2, .int lv), (3, .ref ia)]) hx hb d_X_hashAt_46 hl (by decide) rfl (fun ls hl => ?_)
      refine lv_aload_n hx hb d_X_hashAt_48 rfl (lv_at hl 1 rfl) ?_
      refine ht_get (C := R_X) (T := F_X) (N := 9) (v := .ref dg) hx hb htb i_X hown HW hX rfl 1 (by decide) (htb _ wd_41) (fun _ h9 => h9) rfl d_X_hashAt_49 ?_
      refine lv_iconst (v := 1) hx hb d_X_hashAt_52 (by decide) ?_
      refine lv_aload hx hb d_X_hashAt_53 (lv_at hl 0 rfl) ?_
      refine ht_get (C := R_B) (T := F_B) (N := 6) (v := .ref zo.1) hx hb htb i_B hown HW hla rfl 4 (by decide) (htb _ wd_166) (fun _ h9 => h9) rfl d_X_hashAt_55 ?_
      refine ht_ngt hx hb htb hown HW hz 2 (by decide) (htb _ wd_137) (fun _ h9 => h9) (v := .ref (A zo.1).2.1) rfl d_X_hashAt_58 ?_
      refine lv_aload hx hb d_X_hashAt_61 (lv_at hl 0 rfl) ?_
      refine ht_get (C := R_B) (T := F_B) (N := 6) (v := .ref zo.2) hx hb htb i_B hown HW hla rfl 5 (by decide) (htb _ wd_168) (fun _ h9 => h9) rfl d_X_hashAt_63 ?_
      refine ht_ngt hx hb htb hown HW ho 2 (by decide) (htb _ wd_137) (fun _ h9 => h9) (v := .ref (A zo.2).2.1) rfl d_X_hashAt_66 ?_
      refine lv_aload_n hx hb d_X_hashAt_69 rfl (lv_at hl 4 rfl) ?_
      refine ht_cv HW (va_runV (own := R_X) (C := R_D) (As := [.int 1, .ref (A zo.1).2.1, .ref (A zo.2).2.1, .ref ia]) (rest := []) ⟨hx, hb, hml, hown, htb⟩ (c_D_join l g w hDg 1 (Or.inl hhz) (Or.inl hho) hI) (cwV 4 htb (ht_gv wd_221 wd_222 wd_223 wd_2 g_D_join) rfl rfl rfl (by decide +kernel) ⟨Nat.le_of_ble_eq_true rfl, Nat.le_of_ble_eq_true rfl⟩) (HW.preV hDg1 rfl _) rfl rfl hl.1 rfl (lv_room (Nat.le_of_ble_eq_true rfl)) d_X_hashAt_70 ⟨Nat.le_of_ble_eq_true rfl, Nat.le_of_ble_eq_true rfl⟩) (fun u1 H locs pj HW => ?_)
      have hla : ht_at u1 a (.inr (3, [.ref (A a).1, .int (nI (ht_rl (N a))), .ref (A a).2.1, .int (ht_b1 (ht_rf (N a))), .ref zo.1, .ref zo.2]) : va_E) := by rw [pj]; exact ht_at_ne (ht_Dg.ne hla ha1 ha2 ha3) ha4
      refine lv_aload hx hb d_X_hashAt_73 (lv_at hl 0 rfl) ?_
      refine ht_get (C := R_B) (T := F_B) (N := 6) (v := .int (nI (ht_rl (N a)))) hx hb htb i_B hown HW hla rfl 1 (by decide) (htb _ wd_133) (fun x h9 => u_same (htb _ wd_134) x h9) rfl d_X_hashAt_75 ?_
      refine lv_iconst (v := 1) hx hb d_X_hashAt_78 (by decide) ?_
      refine lv_isub hx hb d_X_hashAt_79 ?_
      refine lv_topi (fun y ey => ?_)
      refine lv_istore (lv' := [(6, .int y), (5, .ref a), (0, .ref x), (1, .ref a), (2, .int lv), (3, .ref ia)]) hx hb d_X_hashAt_80 hl (by decide) rfl (fun ls hl => ?_)
      exact loop (ht_rl (N a) - d) 0 (by omega) _ _ _ _ y (by rw [ey, ht_c2]; rfl) (HW.to (by rw [pj, ht_jt_dgf]; rfl)) (lv_sub hl [2, 4, 5, 1, 0] rfl)
  · exact absurd rfl c4
end
section
/-! A hash is made anew: the pure side; the way down that is kept in a row. -/
theorem ht_FH.pop {N : ht_N} {F : List Nat} {top : Option Nat} {L : ht_L} {a d : Nat} {HV : ht_K} {dgf : Int32 → ht_K → ht_K → ht_K} (hT : ht_T N F top L) (hF : ht_FH dgf N F top L) (ha : a ∈ F) (hch : ∀ zo, ht_rp (N a) = .inr zo → ∀ b, ht_rf (N (ht_ch zo b)) = true) (hpar : (d = 0 ∧ top = some a) ∨ ∃ p zo b, p ∈ F ∧ ht_rp (N p) = .inr zo ∧ ht_ch zo b = a ∧ d = ht_rl (N p) + 1) (hHV : HV = ht_h dgf (256 - d) (ht_U N L a)) : ht_FH dgf (va_up N a (ht_sf (ht_sh (N a) HV) true)) F top L := by
  generalize hN' : va_up N a (ht_sf (ht_sh (N a) HV) true) = N'
  have eA : N' a = ht_sf (ht_sh (N a) HV) true := by rw [← hN', va_up_self]
  have eO : ∀ b, b ≠ a → N' b = N b := fun b hb => by rw [← hN', va_up_ne _ _ hb]
  have same : ∀ b, ht_rk (N' b) = ht_rk (N b) ∧ ht_rl (N' b) = ht_rl (N b) ∧ ht_rp (N' b) = ht_rp (N b) := by
    intro b
    by_cases e : b = a
    · rw [e, eA]; exact ⟨rfl, rfl, rfl⟩
    · rw [eO b e]; exact ⟨rfl, rfl, rfl⟩
  have hU : ∀ b, ht_U N' L b = ht_U N L b := fun b => ht_U_congr (same b).1 (same b).2.1
  refine ⟨fun t ht hr => ?_, fun c hc zo hz b => ⟨fun hr => ?_, fun hr => ?_⟩⟩
  · rw [hU]
    by_cases e : t = a
    · subst e
      rw [eA]
      show HV = _
      rcases hpar with ⟨h0, -⟩ | ⟨p, zo, b, hp, hz, he, -⟩
      · rw [hHV, h0]
      · subst ht
        exact absurd he (hT.noparent hp hz)
    · rw [eO t e] at hr ⊢
      exact hF.1 t ht hr
  · rw [(same c).2.2] at hz
    rw [hU, (same c).2.1]
    by_cases e : ht_ch zo b = a
    · rw [e, eA]
      show HV = _
      rcases hpar with ⟨-, h0⟩ | ⟨p, zo', b', hp, hz', he, hd⟩
      · subst h0
        exact absurd e (hT.noparent hc hz)
      · have := hT.parent hc hp hz hz' (e.trans he.symm)
        subst this
        rw [hHV, hd]
        congr 1
        omega
    · rw [eO _ e] at hr ⊢
      exact (hF.2 c hc zo hz b).1 hr
  · rw [(same c).2.2] at hz
    have hzl := (hT.half hc hz b).2.2.1
    by_cases e : ht_ch zo b = a
    · rw [e, eA]; rfl
    · rw [eO _ e]
      by_cases e2 : c = a
      · subst e2
        exact hch zo hz b
      · rw [eO c e2] at hr
        exact (hF.2 c hc zo hz b).2 hr
/-- the nodes that are open, the last one first -/
def ht_stk (N : ht_N) (F : List Nat) (top : Option Nat) : List Nat → Prop
  | [] => True
  | [a] => a ∈ F ∧ ht_rf (N a) = false ∧ top = some a
  | a :: p :: r => a ∈ F ∧ ht_rf (N a) = false ∧ (∃ zo b, ht_rp (N p) = .inr zo ∧ ht_ch zo b = a) ∧ ht_stk N F top (p :: r)
def ht_ops (opf : Nat → Option Nat) : List Nat → Prop
  | [] => True
  | a :: r => opf r.length = some a ∧ ht_ops opf r
theorem ht_stk.hd {N : ht_N} {F : List Nat} {top : Option Nat} {a : Nat} {r : List Nat} (h : ht_stk N F top (a :: r)) : a ∈ F ∧ ht_rf (N a) = false := by
  cases r with
  | nil => exact ⟨h.1, h.2.1⟩
  | cons p r => exact ⟨h.1, h.2.1⟩
theorem ht_stk.tl {N : ht_N} {F : List Nat} {top : Option Nat} {a : Nat} {r : List Nat} (h : ht_stk N F top (a :: r)) : ht_stk N F top r := by
  cases r with
  | nil => exact trivial
  | cons p r => exact h.2.2.2
theorem ht_stk.lt {N : ht_N} {F : List Nat} {top : Option Nat} {L : ht_L} (hT : ht_T N F top L) : ∀ {r : List Nat} {a : Nat}, ht_stk N F top (a :: r) → r.length ≤ ht_rl (N a) ∧ ∀ x ∈ r, ht_rl (N x) < ht_rl (N a) := by
  intro r
  induction r with
  | nil => intro a _; exact ⟨Nat.zero_le _, fun x hx => by cases hx⟩
  | cons p r ih =>
    intro a h
    obtain ⟨h1, h2, ⟨zo, b, hz, he⟩, h4⟩ := h
    obtain ⟨i1, i2⟩ := ih h4
    have hl := (hT.half h4.hd.1 hz b).2.2.1
    rw [he] at hl
    refine ⟨by rw [List.length_cons]; omega, fun x hx => ?_⟩
    rcases List.mem_cons.mp hx with e | e
    · rw [e]; exact hl
    · exact Nat.lt_trans (i2 x e) hl
theorem ht_stk.nd {N : ht_N} {F : List Nat} {top : Option Nat} {L : ht_L} (hT : ht_T N F top L) : ∀ {r : List Nat}, ht_stk N F top r → r.Nodup ∧ ∀ x ∈ r, x ∈ F.filter (fun a => !ht_rf (N a)) := by
  intro r
  induction r with
  | nil => intro _; exact ⟨List.nodup_nil, fun x hx => by cases hx⟩
  | cons a r ih =>
    intro h
    obtain ⟨i1, i2⟩ := ih h.tl
    refine ⟨List.nodup_cons.mpr ⟨fun q => Nat.lt_irrefl _ ((ht_stk.lt hT h).2 a q), i1⟩, fun x hx => ?_⟩
    rcases List.mem_cons.mp hx with e | e
    · rw [e]
      exact List.mem_filter.mpr ⟨h.hd.1, by rw [h.hd.2]; rfl⟩
    · exact i2 x e
theorem ht_stk.len {N : ht_N} {F : List Nat} {top : Option Nat} {L : ht_L} (hT : ht_T N F top L) {r : List Nat} (h : ht_stk N F top r) : r.length ≤ ht_st N F := ht_sub_len (h.nd hT).1 (h.nd hT).2
theorem ht_stk.cg {N N' : ht_N} {F : List Nat} {top : Option Nat} : ∀ {r : List Nat}, ht_stk N F top r → (∀ x ∈ r, ht_rf (N' x) = ht_rf (N x) ∧ ht_rp (N' x) = ht_rp (N x)) → ht_stk N' F top r := by
  intro r
  induction r with
  | nil => intro _ _; exact trivial
  | cons a r ih =>
    intro h hc
    have ha := hc a List.mem_cons_self
    cases r with
    | nil => exact ⟨h.1, by rw [ha.1]; exact h.2.1, h.2.2⟩
    | cons p r =>
      obtain ⟨h1, h2, ⟨zo, b, hz, he⟩, h4⟩ := h
      exact ⟨h1, by rw [ha.1]; exact h2, ⟨zo, b, by rw [(hc p (List.mem_cons_of_mem _ List.mem_cons_self)).2]; exact hz, he⟩, ih h4 (fun x hx => hc x (List.mem_cons_of_mem _ hx))⟩
theorem ht_ops.cg {opf opf' : Nat → Option Nat} : ∀ {r : List Nat}, ht_ops opf r → (∀ i, i < r.length → opf' i = opf i) → ht_ops opf' r := by
  intro r
  induction r with
  | nil => intro _ _; exact trivial
  | cons a r ih =>
    intro h hc
    exact ⟨by rw [hc r.length (by simp)]; exact h.1, ih h.2 (fun i hi => hc i (by rw [List.length_cons]; omega))⟩
theorem ht_st_pop {N : ht_N} {F : List Nat} {a : Nat} {HV : ht_K} (hn : F.Nodup) (ha : a ∈ F) (hs : ht_rf (N a) = false) : ht_st (va_up N a (ht_sf (ht_sh (N a) HV) true)) F + 1 = ht_st N F := by
  unfold ht_st
  refine ht_cnt (a := a) (by rw [hs]; rfl) (by rw [va_up_self]; rfl) (fun x hx => by rw [va_up_ne _ _ hx]) hn ha
theorem ht_Rp.pop {dgf : Int32 → ht_K → ht_K → ht_K} {g : ht_G} {w : ht_W} {X : Nat → Nat} {tg : Nat → Nat × Nat} {k : ht_K} {N : ht_N} {A : ht_AA} {F : List Nat} {top : Option Nat} {L : ht_L} {dt dt' : ht_D} {opf : Nat → Option Nat} {sbf lsf enf : Nat → Int64} {ei : Int32} (h : ht_Rp dgf g w X tg k N A F top L dt opf sbf lsf enf ei) {a : Nat} (ha : a ∈ F) {HV : ht_K} (hF' : ht_FH dgf (va_up N a (ht_sf (ht_sh (N a) HV) true)) F top L) :
    ht_Rp dgf g (ht_up (ht_up (ht_dw g w (X 2) (X 3) (X 4) dt') (A a).2.1 (ht_al g 4 (ht_kf HV))) a (ht_nc (ht_sf (ht_sh (N a) HV) true) (A a).1 (A a).2.1 (A a).2.2)) X tg k (va_up N a (ht_sf (ht_sh (N a) HV) true)) A F top L dt' opf sbf lsf enf ei := by
  obtain ⟨h1, h2, h3, h4, h5, h6, h7, h8, h9, h10, h11, h12⟩ := id h
  have ta := h11.2 a ha
  have hx : ∀ i, i < 9 → X i ≠ (A a).2.1 ∧ X i ≠ a := fun i hi => ⟨ht_tne (h11.1 i hi) ta.2.2.1 (fun z => by cases z), ht_tne (h11.1 i hi) ta.1 (fun z => by cases z)⟩
  have hxx : ∀ i j, i < 9 → j < 9 → i ≠ j → X i ≠ X j := fun i j hi hj hn => ht_tne (h11.1 i hi) (h11.1 j hj) (fun z => hn (by injection z))
  have keep : ∀ i, i < 9 → i ≠ 2 → i ≠ 3 → i ≠ 4 → ∀ {e : va_E}, ht_at w (X i) e → ht_at (ht_up (ht_up (ht_dw g w (X 2) (X 3) (X 4) dt') (A a).2.1 (ht_al g 4 (ht_kf HV))) a (ht_nc (ht_sf (ht_sh (N a) HV) true) (A a).1 (A a).2.1 (A a).2.2)) (X i) e := fun i hi n2 n3 n4 e he =>
    ht_at_ne (ht_at_ne (ht_Dg.ne he (hxx i 2 hi (by decide) n2) (hxx i 3 hi (by decide) n3) (hxx i 4 hi (by decide) n4)) (hx i hi).1) (hx i hi).2
  have hu := h3.up (t' := dt')
  refine ⟨keep 0 (by decide) (by decide) (by decide) (by decide) h1, keep 1 (by decide) (by decide) (by decide) (by decide) h2, ⟨ht_at_ne (ht_at_ne hu.1 (hx 2 (by decide)).1) (hx 2 (by decide)).2, ht_at_ne (ht_at_ne hu.2.1 (hx 3 (by decide)).1) (hx 3 (by decide)).2, ht_at_ne (ht_at_ne hu.2.2 (hx 4 (by decide)).1) (hx 4 (by decide)).2⟩, keep 5 (by decide) (by decide) (by decide) (by decide) h4, keep 6 (by decide) (by decide) (by decide) (by decide) h5, keep 7 (by decide) (by decide) (by decide) (by decide) h6, keep 8 (by decide) (by decide) (by decide) (by decide) h7, fun b hb => ?_, h9.cg (fun b => ?_), hF', h11.congr (fun b hb v hv => ?_), h12⟩
  · obtain ⟨q1, q2, q3, q4⟩ := h8 b hb
    obtain ⟨t1, t2, t3, t4⟩ := h11.2 b hb
    have dk : ∀ {x : Nat} {n : Nat} {f : Nat → Int64}, ht_at w x (ht_al g n f) → ht_at (ht_dw g w (X 2) (X 3) (X 4) dt') x (ht_al g n f) := fun hx => h3.al hx
    have nb : b ≠ (A a).2.1 := ht_tne t1 ta.2.2.1 (fun z => by cases z)
    have n1 : (A b).1 ≠ (A a).2.1 := ht_tne t2 ta.2.2.1 (fun z => by cases z)
    have m1 : (A b).1 ≠ a := ht_tne t2 ta.1 (fun z => by cases z)
    have m2 : (A b).2.1 ≠ a := ht_tne t3 ta.1 (fun z => by cases z)
    have db : ht_at (ht_dw g w (X 2) (X 3) (X 4) dt') b (ht_nc (N b) (A b).1 (A b).2.1 (A b).2.2) := ht_Dg.ne q1 (fun z => h.out 2 (by decide) (by rw [← z]; exact hb)) (fun z => h.out 3 (by decide) (by rw [← z]; exact hb)) (fun z => h.out 4 (by decide) (by rw [← z]; exact hb))
    by_cases e : b = a
    · subst e
      rw [va_up_self]
      exact ⟨ht_at_self (ht_at_ne db nb), ht_at_ne (ht_at_ne (dk q2) n1) m1, ht_at_ne (ht_at_self (dk q3)) m2, fun v hv => ht_at_ne (ht_at_ne (dk (q4 v hv)) (ht_tne (t4 v hv) t3 (fun z => by cases z))) (ht_tne (t4 v hv) t1 (fun z => by cases z))⟩
    · rw [va_up_ne _ _ e]
      exact ⟨ht_at_ne (ht_at_ne db nb) e, ht_at_ne (ht_at_ne (dk q2) n1) m1, ht_at_ne (ht_at_ne (dk q3) (ht_tne t3 ta.2.2.1 (fun z => e (by injection z)))) m2, fun v hv => ht_at_ne (ht_at_ne (dk (q4 v hv)) (ht_tne (t4 v hv) ta.2.2.1 (fun z => by cases z))) (ht_tne (t4 v hv) ta.1 (fun z => by cases z))⟩
  · by_cases e : b = a
    · rw [e, va_up_self]; exact ⟨rfl, rfl, rfl⟩
    · rw [va_up_ne _ _ e]; exact ⟨rfl, rfl, rfl⟩
  · by_cases e : b = a
    · rw [e, va_up_self] at hv
      exact ⟨v, by rw [e]; exact hv⟩
    · rw [va_up_ne _ _ e] at hv
      exact ⟨v, hv⟩
/-- the open row changes -/
theorem ht_Rp.opn {dgf : Int32 → ht_K → ht_K → ht_K} {g : ht_G} {w : ht_W} {X : Nat → Nat} {tg : Nat → Nat × Nat} {k : ht_K} {N : ht_N} {A : ht_AA} {F : List Nat} {top : Option Nat} {L : ht_L} {dt : ht_D} {opf opf' : Nat → Option Nat} {sbf lsf enf : Nat → Int64} {ei : Int32} (h : ht_Rp dgf g w X tg k N A F top L dt opf sbf lsf enf ei) : ht_Rp dgf g (ht_up w (X 5) (ht_aq g 257 opf')) X tg k N A F top L dt opf' sbf lsf enf ei := by
  obtain ⟨h1, h2, h3, h4, h5, h6, h7, h8, h9, h10, h11, h12⟩ := id h
  have hne : ∀ i, i < 9 → i ≠ 5 → X i ≠ X 5 := fun i hi hn => ht_tne (h11.1 i hi) (h11.1 5 (by decide)) (fun z => hn (by injection z))
  refine ⟨ht_at_ne h1 (hne 0 (by decide) (by decide)), ht_at_ne h2 (hne 1 (by decide) (by decide)), ⟨ht_at_ne h3.1 (hne 2 (by decide) (by decide)), ht_at_ne h3.2.1 (hne 3 (by decide) (by decide)), ht_at_ne h3.2.2 (hne 4 (by decide) (by decide))⟩, ht_at_self h4, ht_at_ne h5 (hne 6 (by decide) (by decide)), ht_at_ne h6 (hne 7 (by decide) (by decide)), ht_at_ne h7 (hne 8 (by decide) (by decide)), fun a ha => ?_, h9, h10, h11, h12⟩
  obtain ⟨q1, q2, q3, q4⟩ := h8 a ha
  obtain ⟨t1, t2, t3, t4⟩ := h11.2 a ha
  have tx := h11.1 5 (by decide)
  exact ⟨ht_at_ne q1 (ht_tne t1 tx (fun z => by cases z)), ht_at_ne q2 (ht_tne t2 tx (fun z => by cases z)), ht_at_ne q3 (ht_tne t3 tx (fun z => by cases z)), fun v hv => ht_at_ne (q4 v hv) (ht_tne (t4 v hv) tx (fun z => by cases z))⟩
end
section
theorem ht_anyN {g : ht_G} {s : State} {w : ht_W} {H : Heap} {locs : List Loc} (HW : ht_I g s w H locs) {a : Nat} {r : ht_R} {ka ha va : Nat} (he : ht_at w a (ht_nc r ka ha va)) : va_Any "HashTree$Node" s H a := by
  cases hp : ht_rp r with
  | inl x =>
    rw [ht_nc_l hp] at he
    obtain ⟨q, hq⟩ := ht_ix he
    exact va_rAny HW.2.1 HW.2.2.2.1 hq (r := (R_L, F_L, 5)) rfl (fun comp c0 h1 h2 => vb_asgC HW.2.2.1.2.2.2.2.2.1 comp c0 h1 h2)
  | inr zo =>
    rw [ht_nc_b hp] at he
    obtain ⟨q, hq⟩ := ht_ix he
    exact va_rAny HW.2.1 HW.2.2.2.1 hq (r := (R_B, F_B, 6)) rfl (fun comp c0 h1 h2 => vb_asgC HW.2.2.1.2.2.2.2.1 comp c0 h1 h2)
def ht_sm (N N' : ht_N) : Prop := ∀ a, ht_rk (N' a) = ht_rk (N a) ∧ ht_rl (N' a) = ht_rl (N a) ∧ ht_rp (N' a) = ht_rp (N a)
theorem ht_sm.rf {N : ht_N} : ht_sm N N := fun _ => ⟨rfl, rfl, rfl⟩
theorem ht_sm.pop {N N' : ht_N} (h : ht_sm N N') (a : Nat) (HV : ht_K) : ht_sm N (va_up N' a (ht_sf (ht_sh (N' a) HV) true)) := by
  intro x
  by_cases e : x = a
  · subst e
    rw [va_up_self]
    exact h x
  · rw [va_up_ne _ _ e]
    exact h x
theorem ht_frp {tg : Nat → Nat × Nat} {w : ht_W} {dg wd wa : Nat} {g : ht_G} {t : ht_D} (h1 : (tg dg).1 ≠ 0) (h2 : (tg wd).1 ≠ 0) (h3 : (tg wa).1 ≠ 0) : ht_fr (fun b => (tg b).1 ≠ 0) w (ht_dw g w dg wd wa t) := by
  unfold ht_dw
  exact ((ht_fr.up (S := fun b => (tg b).1 ≠ 0) h1).trans (ht_fr.up (S := fun b => (tg b).1 ≠ 0) h2)).trans (ht_fr.up (S := fun b => (tg b).1 ≠ 0) h3)
set_option maxHeartbeats 4000000 in
set_option maxRecDepth 100000 in
theorem c_X_refresh (l : Launch) (g : ht_G) (w : ht_W) {X : Nat → Nat} {tg : Nat → Nat × Nat} {k : ht_K} {N : ht_N} {A : ht_AA} {F : List Nat} {top : Option Nat} {L : ht_L} {dt : ht_D} {opf : Nat → Option Nat} {sbf lsf enf : Nat → Int64} {ei : Int32} (hR : ht_Rp ht_dgf g w X tg k N A F top L dt opf sbf lsf enf ei) (hcap : L.length ≤ 512) : Met l y_X_refresh ws_X_refresh ({ frames := 6, cells := 0, slots := 0, locals := 180 } : Room) (va_Pc [.ref (X 0)] (ht_WS g w)) (ht_Qv g (fun u => ∃ (N' : ht_N) (dt' : ht_D) (opf' : Nat → Option Nat), ht_Rp ht_dgf g u X tg k N' A F top L dt' opf' sbf lsf enf ei ∧ ht_fr (fun b => (tg b).1 ≠ 0) w u ∧ (∀ t, top = some t → ht_rf (N' t) = true) ∧ ht_sm N N')) 0 0 (ht_A g) := by
  refine Met.ofW (cc := b_X_refresh) (maxL := 6) (ret := none) (by decide) rfl ?_
  intro p e s m args below meth c s₁ BB hml hv
  obtain ⟨rfl, HW⟩ := hv
  have HW := ht_I.start HW
  have hx := BB.exec
  have hb := BB.bytes
  have hr := BB.returns
  have hts := atoms_spec (ws := ws_X_refresh) BB.pre
  have htb : ∀ w ∈ bg, w.before _ s = true := fun w h => hts w (List.mem_cons_of_mem _ h)
  have hown : s.vm.findClass R_X = some m.cls := findClass_of_methodNamed BB.named
  have hlocks := BB.notSynchronized
  have hl := lv_entry ([.ref (X 0)]) (n := 6) (Nat.le_of_ble_eq_true rfl)
  rw [lg_entry_eq]
  generalize (lg_sl ([.ref (X 0)]) ++ List.replicate (6 - (lg_sl ([.ref (X 0)])).length) Slot.unset).toArray = ls at hl ⊢
  have hl : lv_has ls 6 [(0, .ref (X 0))] := hl
  obtain ⟨hX, hK, hDg, hOp, hSb, hLs, hEn, hN, hT, hF, htg, hlen⟩ := id hR
  unfold ht_xo at hX
  have loop : ∀ (n : Nat) (stk : List Nat) (Ni : ht_N) (dti : ht_D) (opi : Nat → Option Nat) (u : ht_W) (st : Nat), ht_Rp ht_dgf g u X tg k Ni A F top L dti opi sbf lsf enf ei → ht_sm N Ni → ht_fr (fun b => (tg b).1 ≠ 0) w u → ht_stk Ni F top stk → ht_ops opi stk → (stk = [] → ∀ t, top = some t → ht_rf (Ni t) = true) → 2 * ht_st Ni F ≤ n + stk.length → st + n ≤ 2048 → ∀ (H : Heap) (locs : List Loc) (ls : Array Slot) (dp sp : Int32), dp = nI stk.length → sp = nI st → ht_I g s u H locs → lv_has ls 6 [(0, .ref (X 0)), (1, .int dp), (2, .int sp)] → W p l e (headSpec ws_X_refresh ({ frames := 6, cells := 0, slots := 0, locals := 180 } : Room)).room s m ([.ref (X 0)] : List Value).toArray below meth c H locs 0 0 (MQ below (ht_Qv g (fun u => ∃ (N' : ht_N) (dt' : ht_D) (opf' : Nat → Option Nat), ht_Rp ht_dgf g u X tg k N' A F top L dt' opf' sbf lsf enf ei ∧ ht_fr (fun b => (tg b).1 ≠ 0) w u ∧ (∀ t, top = some t → ht_rf (N' t) = true) ∧ ht_sm N N')) ([.ref (X 0)] : List Value).toArray s 0 0 (ht_A g)) (F0 m 33 ls []) := by
    intro n
    induction n with
    | zero =>
      intro stk Ni dti opi u st hRi hsmi hfri hstk hopsi hdone hms hst H locs ls dp sp edp esp HW hl
      rcases stk with _ | ⟨a, r⟩
      · refine lv_iload_n hx hb d_X_refresh_33 rfl (lv_at hl 1 rfl) ?_
        refine lv_if_le (tgt := 148) hx hb d_X_refresh_34 (by decide) (fun c34 => ?_) (fun c34 => ?_)
        · exact ht_vret hx hb hr hlocks HW ⟨Ni, dti, opi, hRi, hfri, hdone rfl, hsmi⟩ d_X_refresh_148
        · exact absurd (by rw [edp]; decide) c34
      · have := ht_stk.len hRi.2.2.2.2.2.2.2.2.1 hstk
        simp only [List.length_cons] at this hms
        omega
    | succ n ih =>
      intro stk Ni dti opi u st hRi hsmi hfri hstk hopsi hdone hms hst H locs ls dp sp edp esp HW hl
      rcases stk with _ | ⟨a, r⟩
      · refine lv_iload_n hx hb d_X_refresh_33 rfl (lv_at hl 1 rfl) ?_
        refine lv_if_le (tgt := 148) hx hb d_X_refresh_34 (by decide) (fun c34 => ?_) (fun c34 => ?_)
        · exact ht_vret hx hb hr hlocks HW ⟨Ni, dti, opi, hRi, hfri, hdone rfl, hsmi⟩ d_X_refresh_148
        · exact absurd (by rw [edp]; decide) c34
      · obtain ⟨hX, hK, hDgi, hOp, hSb, hLs, hEn, hNi, hTi, hFi, htgi, hleni⟩ := id hRi
        unfold ht_xo at hX
        have n05 : X 0 ≠ X 5 := ht_tne (htgi.1 0 (by decide)) (htgi.1 5 (by decide)) (by decide)
        have haF := hstk.hd.1
        have hlst := ht_stk.len hTi hstk
        have hllv := (ht_stk.lt hTi hstk).1
        have hal := hTi.lv haF
        have hlen257 : (a :: r).length ≤ 257 := by rw [List.length_cons]; omega
        have hha := (hNi a haF).2.2.1
        have hne : (A a).1 ≠ (A a).2.1 := ht_tne (htgi.2 a haF).2.1 (htgi.2 a haF).2.2.1 (fun z9 => by cases z9)
        rw [List.length_cons] at hlst
        refine lv_iload_n hx hb d_X_refresh_33 rfl (lv_at hl 1 rfl) ?_
        refine lv_if_le (tgt := 148) hx hb d_X_refresh_34 (by decide) (fun c34 => ?_) (fun c34 => ?_)
        · exact absurd (by rw [edp] at c34; exact c34) (nI_nle (by simp) (by omega))
        · refine lv_iload_n hx hb d_X_refresh_37 rfl (lv_at hl 2 rfl) ?_
          refine lv_sipush (v := 2048) hx hb d_X_refresh_38 (by decide) ?_
          refine lv_icmp_ge (tgt := 148) hx hb d_X_refresh_41 (by decide) (fun c41 => ?_) (fun c41 => ?_)
          · exact absurd (show nI 2048 ≤ nI st by rw [esp] at c41; exact c41) (nI_ge (by omega) (by omega))
          · refine lv_aload_n hx hb d_X_refresh_44 rfl (lv_at hl 0 rfl) ?_
            refine ht_get (C := R_X) (T := F_X) (N := 9) (v := .ref (X 5)) hx hb htb i_X hown HW hX rfl 2 (by decide) (htb _ wd_42) (fun _ h9 => h9) rfl d_X_refresh_45 ?_
            refine lv_iload_n hx hb d_X_refresh_48 rfl (lv_at hl 1 rfl) ?_
            refine lv_iconst (v := 1) hx hb d_X_refresh_49 (by decide) ?_
            refine lv_isub hx hb d_X_refresh_50 ?_
            refine lv_topi (fun i1 ei1 => ?_)
            have hi1 : i1 = nI r.length := by rw [ei1]; exact ht_sb (b := 1) edp rfl (by rw [List.length_cons]; omega)
            refine ht_aald hx hb HW hOp (by rw [hi1]; exact vp_in_nI (by omega) (by omega)) d_X_refresh_51 ?_
            rw [hi1, nI_clamp (by omega), hopsi.1]
            refine W.eq (g2 := F0 _ 52 ls [.ref a]) rfl ?_
            refine lv_astore_n (lv' := [(3, .ref a), (0, .ref (X 0)), (1, .int dp), (2, .int sp)]) hx hb d_X_refresh_52 rfl hl (by decide) rfl (fun ls hl => ?_)
            rcases hp : ht_rp (Ni a) with v | zo
            · have hla := hNi.lf haF hp
              refine lv_aload_n hx hb d_X_refresh_53 rfl (lv_at hl 0 rfl) ?_
              refine va_instNo hx hb hown (htb _ wd_87) HW.2.2.1.2.2.2.2.2.2.2.1 (HW.recv hla (q := (R_L, F_L, 5)) rfl) d_X_refresh_54 ?_
              refine lv_if_eq (tgt := 74) hx hb d_X_refresh_57 (by decide) (fun c57 => ?_) (fun c57 => ?_)
              · refine lv_null hx hb d_X_refresh_74 ?_
                refine lv_astoreN (lv' := [(4, .null), (3, .ref a), (0, .ref (X 0)), (1, .int dp), (2, .int sp)]) hx hb d_X_refresh_75 hl (by decide) rfl (fun ls hl => ?_)
                refine lv_aloadN hx hb d_X_refresh_77 (lv_at hl 0 rfl) ?_
                refine lv_ifnullN (tgt := 103) hx hb d_X_refresh_79 (by decide) ?_
                have hchl : ∀ zo9, ht_rp (Ni a) = .inr zo9 → ∀ b9, ht_rf (Ni (ht_ch zo9 b9)) = true := fun zo9 hz9 b9 => by rw [hp] at hz9; cases hz9
                rcases r with _ | ⟨p, r2⟩
                · have hpar : (0 = 0 ∧ top = some a) ∨ ∃ p zo b, p ∈ F ∧ ht_rp (Ni p) = .inr zo ∧ ht_ch zo b = a ∧ 0 = ht_rl (Ni p) + 1 := Or.inl ⟨rfl, hstk.2.2⟩
                  refine lv_aload_n hx hb d_X_refresh_103 rfl (lv_at hl 2 rfl) ?_
                  refine lv_aload_n hx hb d_X_refresh_104 rfl (lv_at hl 1 rfl) ?_
                  refine lv_iload_n hx hb d_X_refresh_105 rfl (lv_at hl 3 rfl) ?_
                  refine lv_iconst (v := 1) hx hb d_X_refresh_106 (by decide) ?_
                  refine lv_icmp_le (tgt := 126) hx hb d_X_refresh_107 (by decide) (fun c107 => ?_) (fun c107 => ?_)
                  · refine lv_iconst (v := 0) hx hb d_X_refresh_126 (by decide) ?_
                    refine lv_aload_n hx hb d_X_refresh_127 rfl (lv_at hl 1 rfl) ?_
                    refine ht_get (C := R_L) (T := F_L) (N := 5) (v := .ref (A a).2.1) hx hb htb i_L hown HW hla rfl 2 (by decide) (htb _ wd_137) (fun _ h9 => h9) rfl d_X_refresh_128 ?_
                    refine ht_cv HW (va_runV (own := R_X) (C := R_X) (As := [.ref a, .int 0, .ref (A a).2.1]) (rest := []) ⟨hx, hb, hml, hown, htb⟩ (c_X_hashAt_L l g u hX hDgi hNi hTi haF hha hne hp 0) (cwV 3 htb (ht_gv wd_217 wd_219 sl_6 wd_1 g_X_hashAt) rfl rfl rfl (by decide +kernel) ⟨Nat.le_of_ble_eq_true rfl, Nat.le_of_ble_eq_true rfl⟩) (HW.preV hX rfl _) rfl rfl hl.1 rfl (lv_room (Nat.le_of_ble_eq_true rfl)) d_X_refresh_131 ⟨Nat.le_of_ble_eq_true rfl, Nat.le_of_ble_eq_true rfl⟩) (fun u1 H locs ph HW => ?_)
                    obtain ⟨dt1, eu1⟩ := ph
                    obtain ⟨HV, eHV⟩ : ∃ z9 : ht_K, z9 = (ht_dgf 0 (ht_rk (Ni a)) v) := ⟨_, rfl⟩
                    rw [← eHV] at eu1
                    have hHV : HV = ht_h ht_dgf (256 - 0) (ht_U Ni L a) := by
                      rw [eHV]
                      exact (by rw [hTi.U_leaf haF hp, ht_h_one])
                    have hF2 := ht_FH.pop hTi hFi haF hchl hpar hHV
                    have hR2 := hRi.pop (dt' := dt1) haF hF2
                    have hna : ht_at u1 a (ht_nc (ht_sh (Ni a) HV) (A a).1 (A a).2.1 (A a).2.2) := by
                      rw [eu1]
                      exact ht_at_ne (ht_Dg.ne (hNi a haF).1 (fun z9 => hRi.out 2 (by decide) (by rw [← z9]; exact haF)) (fun z9 => hRi.out 3 (by decide) (by rw [← z9]; exact haF)) (fun z9 => hRi.out 4 (by decide) (by rw [← z9]; exact haF))) (ht_tne (htgi.2 a haF).1 (htgi.2 a haF).2.2.1 (fun z9 => by cases z9))
                    refine lv_aload_n hx hb d_X_refresh_134 rfl (lv_at hl 1 rfl) ?_
                    refine lv_iconst (v := 1) hx hb d_X_refresh_135 (by decide) ?_
                    refine ht_npt (b := true) hx hb htb hown HW hna (htb _ wd_142) (fun _ h9 => h9) d_X_refresh_136 (fun H locs HW => ?_)
                    obtain ⟨u2, hu2⟩ : ∃ zW : ht_W, zW = ht_up u1 a (ht_nc (ht_sf (ht_sh (Ni a) HV) true) ((A a).1) ((A a).2.1) ((A a).2.2)) := ⟨_, rfl⟩
                    have HW : ht_I g s u2 H locs := by rw [hu2]; exact HW
                    have hna : ht_at u2 a (ht_nc (ht_sf (ht_sh (Ni a) HV) true) ((A a).1) ((A a).2.1) ((A a).2.2)) := by rw [hu2]; exact ht_at_self hna
                    obtain ⟨dp2, edp2⟩ : ∃ zI : Int32, zI = dp + (-1) := ⟨_, rfl⟩
                    refine lv_iinc (v := dp2) (lv' := [(1, .int dp2), (4, .null), (3, .ref a), (0, .ref (X 0)), (2, .int sp)]) hx hb d_X_refresh_139 hl (k := 3) rfl (by rw [edp2]; rfl) (by decide) rfl (fun ls hl => ?_)
                    obtain ⟨sp2, esp2⟩ : ∃ zI : Int32, zI = sp + 1 := ⟨_, rfl⟩
                    refine lv_iinc (v := sp2) (lv' := [(2, .int sp2), (1, .int dp2), (4, .null), (3, .ref a), (0, .ref (X 0))]) hx hb d_X_refresh_142 hl (k := 4) rfl (by rw [esp2]; rfl) (by decide) rfl (fun ls hl => ?_)
                    refine lv_goto (tgt := 33) hx hb d_X_refresh_145 (by decide) ?_
                    have hRz : ht_Rp ht_dgf g u2 X tg k (va_up Ni a (ht_sf (ht_sh (Ni a) HV) true)) A F top L dt1 opi sbf lsf enf ei := by rw [hu2, eu1]; exact hR2
                    have hst2 := ht_st_pop (HV := HV) hTi.1 haF hstk.hd.2
                    refine ih [] _ dt1 opi u2 (st + 1) hRz (hsmi.pop a HV) ?_ ?_ hopsi.2 ?_ ?_ (by omega) _ _ _ dp2 sp2 ?_ (by rw [esp2, esp, nI_1]) HW (lv_sub hl [4, 1, 0] rfl)
                    · rw [hu2, eu1]
                      exact ((hfri.trans (ht_frp (by rw [htgi.1 2 (by decide)]; decide) (by rw [htgi.1 3 (by decide)]; decide) (by rw [htgi.1 4 (by decide)]; decide))).trans (ht_fr.up (by rw [(htgi.2 a haF).2.2.1]; exact fun z9 => by cases z9))).trans (ht_fr.up (by rw [(htgi.2 a haF).1]; decide))
                    · refine hstk.tl.cg (fun x9 hx9 => ?_)
                      have nx9 : x9 ≠ a := fun z9 => Nat.lt_irrefl _ ((ht_stk.lt hTi hstk).2 a (by rw [← z9]; exact hx9))
                      rw [va_up_ne _ _ nx9]
                      exact ⟨rfl, rfl⟩
                    · intro _ t9 ht9
                      rw [hstk.2.2] at ht9
                      cases ht9
                      rw [va_up_self]
                      rfl
                    · simp only [List.length_cons] at hms ⊢
                      omega
                    · rw [edp2, edp]
                      exact pk_m1 _
                  · exact absurd (by rw [edp]; exact Int32.le_refl 1) c107
                · obtain ⟨zp, bp, hpz, hpe⟩ := hstk.2.2.1
                  have hpF := hstk.2.2.2.hd.1
                  have hpc := (hNi p hpF).1
                  have hpl := (hTi.half hpF hpz bp).2.2.1
                  rw [hpe] at hpl
                  have hpar : (ht_rl (Ni p) + 1 = 0 ∧ top = some a) ∨ ∃ p1 zo b, p1 ∈ F ∧ ht_rp (Ni p1) = .inr zo ∧ ht_ch zo b = a ∧ ht_rl (Ni p) + 1 = ht_rl (Ni p1) + 1 := Or.inr ⟨p, zp, bp, hpF, hpz, hpe, rfl⟩
                  refine lv_aload_n hx hb d_X_refresh_103 rfl (lv_at hl 2 rfl) ?_
                  refine lv_aload_n hx hb d_X_refresh_104 rfl (lv_at hl 1 rfl) ?_
                  refine lv_iload_n hx hb d_X_refresh_105 rfl (lv_at hl 3 rfl) ?_
                  refine lv_iconst (v := 1) hx hb d_X_refresh_106 (by decide) ?_
                  refine lv_icmp_le (tgt := 126) hx hb d_X_refresh_107 (by decide) (fun c107 => ?_) (fun c107 => ?_)
                  · exact absurd (show nI (a :: p :: r2).length ≤ nI 1 by rw [edp] at c107; exact c107) (nI_ge (by simp) (by simp only [List.length_cons] at hlen257 ⊢; omega))
                  · refine lv_aload_n hx hb d_X_refresh_110 rfl (lv_at hl 2 rfl) ?_
                    refine ht_get (C := R_X) (T := F_X) (N := 9) (v := .ref (X 5)) hx hb htb i_X hown HW hX rfl 2 (by decide) (htb _ wd_42) (fun _ h9 => h9) rfl d_X_refresh_111 ?_
                    refine lv_iload_n hx hb d_X_refresh_114 rfl (lv_at hl 3 rfl) ?_
                    refine lv_iconst (v := 2) hx hb d_X_refresh_115 (by decide) ?_
                    refine lv_isub hx hb d_X_refresh_116 ?_
                    refine lv_topi (fun i2 ei2 => ?_)
                    have hi2 : i2 = nI r2.length := by rw [ei2]; exact ht_sb (b := 2) edp rfl (by simp only [List.length_cons]; omega)
                    refine ht_aald hx hb HW hOp (by rw [hi2]; exact vp_in_nI (by simp only [List.length_cons] at hlen257; omega) (by omega)) d_X_refresh_117 ?_
                    rw [hi2, nI_clamp (by simp only [List.length_cons] at hlen257; omega), hopsi.2.1]
                    refine W.eq (g2 := F0 _ 118 ls [.ref p, .ref a, .ref (X 0)]) rfl ?_
                    refine ht_ngt hx hb htb hown HW hpc 1 (by decide) (htb _ wd_135) (fun _ h9 => h9) (v := .int (nI (ht_rl (Ni p)))) rfl d_X_refresh_118 ?_
                    refine lv_iconst (v := 1) hx hb d_X_refresh_121 (by decide) ?_
                    refine lv_iadd hx hb d_X_refresh_122 ?_
                    refine lv_topi (fun lvl elvl => ?_)
                    have elvl : lvl = nI (ht_rl (Ni p) + 1) := by rw [elvl, nI_1]
                    refine lv_goto (tgt := 127) hx hb d_X_refresh_123 (by decide) ?_
                    refine lv_aload_n hx hb d_X_refresh_127 rfl (lv_at hl 1 rfl) ?_
                    refine ht_get (C := R_L) (T := F_L) (N := 5) (v := .ref (A a).2.1) hx hb htb i_L hown HW hla rfl 2 (by decide) (htb _ wd_137) (fun _ h9 => h9) rfl d_X_refresh_128 ?_
                    refine ht_cv HW (va_runV (own := R_X) (C := R_X) (As := [.ref a, .int lvl, .ref (A a).2.1]) (rest := []) ⟨hx, hb, hml, hown, htb⟩ (c_X_hashAt_L l g u hX hDgi hNi hTi haF hha hne hp lvl) (cwV 3 htb (ht_gv wd_217 wd_219 sl_6 wd_1 g_X_hashAt) rfl rfl rfl (by decide +kernel) ⟨Nat.le_of_ble_eq_true rfl, Nat.le_of_ble_eq_true rfl⟩) (HW.preV hX rfl _) rfl rfl hl.1 rfl (lv_room (Nat.le_of_ble_eq_true rfl)) d_X_refresh_131 ⟨Nat.le_of_ble_eq_true rfl, Nat.le_of_ble_eq_true rfl⟩) (fun u3 H locs ph HW => ?_)
                    obtain ⟨dt1, eu3⟩ := ph
                    obtain ⟨HV, eHV⟩ : ∃ z9 : ht_K, z9 = (ht_dgf 0 (ht_rk (Ni a)) v) := ⟨_, rfl⟩
                    rw [← eHV] at eu3
                    have hHV : HV = ht_h ht_dgf (256 - (ht_rl (Ni p) + 1)) (ht_U Ni L a) := by
                      rw [eHV]
                      exact (by rw [hTi.U_leaf haF hp, ht_h_one])
                    have hF2 := ht_FH.pop hTi hFi haF hchl hpar hHV
                    have hR2 := hRi.pop (dt' := dt1) haF hF2
                    have hna : ht_at u3 a (ht_nc (ht_sh (Ni a) HV) (A a).1 (A a).2.1 (A a).2.2) := by
                      rw [eu3]
                      exact ht_at_ne (ht_Dg.ne (hNi a haF).1 (fun z9 => hRi.out 2 (by decide) (by rw [← z9]; exact haF)) (fun z9 => hRi.out 3 (by decide) (by rw [← z9]; exact haF)) (fun z9 => hRi.out 4 (by decide) (by rw [← z9]; exact haF))) (ht_tne (htgi.2 a haF).1 (htgi.2 a haF).2.2.1 (fun z9 => by cases z9))
                    refine lv_aload_n hx hb d_X_refresh_134 rfl (lv_at hl 1 rfl) ?_
                    refine lv_iconst (v := 1) hx hb d_X_refresh_135 (by decide) ?_
                    refine ht_npt (b := true) hx hb htb hown HW hna (htb _ wd_142) (fun _ h9 => h9) d_X_refresh_136 (fun H locs HW => ?_)
                    obtain ⟨u4, hu4⟩ : ∃ zW : ht_W, zW = ht_up u3 a (ht_nc (ht_sf (ht_sh (Ni a) HV) true) ((A a).1) ((A a).2.1) ((A a).2.2)) := ⟨_, rfl⟩
                    have HW : ht_I g s u4 H locs := by rw [hu4]; exact HW
                    have hna : ht_at u4 a (ht_nc (ht_sf (ht_sh (Ni a) HV) true) ((A a).1) ((A a).2.1) ((A a).2.2)) := by rw [hu4]; exact ht_at_self hna
                    obtain ⟨dp2, edp2⟩ : ∃ zI : Int32, zI = dp + (-1) := ⟨_, rfl⟩
                    refine lv_iinc (v := dp2) (lv' := [(1, .int dp2), (4, .null), (3, .ref a), (0, .ref (X 0)), (2, .int sp)]) hx hb d_X_refresh_139 hl (k := 3) rfl (by rw [edp2]; rfl) (by decide) rfl (fun ls hl => ?_)
                    obtain ⟨sp2, esp2⟩ : ∃ zI : Int32, zI = sp + 1 := ⟨_, rfl⟩
                    refine lv_iinc (v := sp2) (lv' := [(2, .int sp2), (1, .int dp2), (4, .null), (3, .ref a), (0, .ref (X 0))]) hx hb d_X_refresh_142 hl (k := 4) rfl (by rw [esp2]; rfl) (by decide) rfl (fun ls hl => ?_)
                    refine lv_goto (tgt := 33) hx hb d_X_refresh_145 (by decide) ?_
                    have hRz : ht_Rp ht_dgf g u4 X tg k (va_up Ni a (ht_sf (ht_sh (Ni a) HV) true)) A F top L dt1 opi sbf lsf enf ei := by rw [hu4, eu3]; exact hR2
                    have hst2 := ht_st_pop (HV := HV) hTi.1 haF hstk.hd.2
                    refine ih (p :: r2) _ dt1 opi u4 (st + 1) hRz (hsmi.pop a HV) ?_ ?_ hopsi.2 ?_ ?_ (by omega) _ _ _ dp2 sp2 ?_ (by rw [esp2, esp, nI_1]) HW (lv_sub hl [4, 1, 0] rfl)
                    · rw [hu4, eu3]
                      exact ((hfri.trans (ht_frp (by rw [htgi.1 2 (by decide)]; decide) (by rw [htgi.1 3 (by decide)]; decide) (by rw [htgi.1 4 (by decide)]; decide))).trans (ht_fr.up (by rw [(htgi.2 a haF).2.2.1]; exact fun z9 => by cases z9))).trans (ht_fr.up (by rw [(htgi.2 a haF).1]; decide))
                    · refine hstk.tl.cg (fun x9 hx9 => ?_)
                      have nx9 : x9 ≠ a := fun z9 => Nat.lt_irrefl _ ((ht_stk.lt hTi hstk).2 a (by rw [← z9]; exact hx9))
                      rw [va_up_ne _ _ nx9]
                      exact ⟨rfl, rfl⟩
                    · intro z9
                      cases z9
                    · simp only [List.length_cons] at hms ⊢
                      omega
                    · rw [edp2, edp]
                      exact pk_m1 _
              · exact absurd rfl c57
            · have hla := hNi.br haF hp
              have hzF := (hTi.half haF hp false).1
              have hoF := (hTi.half haF hp true).1
              have hc1 := (hNi zo.1 hzF).1
              have hc2 := (hNi zo.2 hoF).1
              have halt := (hTi.half haF hp false).2.1
              have nz5 : zo.1 ≠ X 5 := fun z9 => hRi.out 5 (by decide) (by rw [← z9]; exact hzF)
              have no5 : zo.2 ≠ X 5 := fun z9 => hRi.out 5 (by decide) (by rw [← z9]; exact hoF)
              have na5 : a ≠ X 5 := fun z9 => hRi.out 5 (by decide) (by rw [← z9]; exact haF)
              refine lv_aload_n hx hb d_X_refresh_53 rfl (lv_at hl 0 rfl) ?_
              refine va_instS hx hb hown (htb _ wd_87) (HW.2.1.1 3 _ rfl).2 (HW.recv hla (q := (R_B, F_B, 6)) rfl) d_X_refresh_54 ?_
              refine lv_if_eq (tgt := 74) hx hb d_X_refresh_57 (by decide) (fun c57 => ?_) (fun c57 => ?_)
              · exact absurd c57 (by decide)
              · refine lv_aload_n hx hb d_X_refresh_60 rfl (lv_at hl 0 rfl) ?_
                refine va_castS hx hb hown (htb _ wd_87) (HW.2.1.1 3 _ rfl).2 (HW.recv hla (q := (R_B, F_B, 6)) rfl) d_X_refresh_61 ?_
                refine lv_astore (lv' := [(5, .ref a), (3, .ref a), (0, .ref (X 0)), (1, .int dp), (2, .int sp)]) hx hb d_X_refresh_64 hl (by decide) rfl (fun ls hl => ?_)
                refine lv_aload hx hb d_X_refresh_66 (lv_at hl 0 rfl) ?_
                refine ht_cq HW (va_runV (own := R_X) (C := R_B) (As := []) (rest := []) ⟨hx, hb, hml, hown, htb⟩ (c_B_staleHalf l g u hla hc1 hc2) (cwV 0 htb (ht_gv wd_213 wd_214 wd_215 wd_8 g_B_staleHalf) rfl rfl rfl (by decide +kernel) ⟨Nat.le_of_ble_eq_true rfl, Nat.le_of_ble_eq_true rfl⟩) (HW.preV hla rfl _) rfl rfl hl.1 rfl (lv_room (Nat.le_of_ble_eq_true rfl)) d_X_refresh_68 ⟨Nat.le_of_ble_eq_true rfl, Nat.le_of_ble_eq_true rfl⟩) (fun q6 u5 H locs ps HW => ?_)
                obtain ⟨er, eww⟩ := ps
                subst eww
                rcases hf1 : ht_rf (Ni zo.1) with _ | _
                · rw [if_neg (by rw [hf1]; decide)] at er
                  subst er
                  refine W.eq (g2 := F0 _ 71 ls [.ref zo.1]) rfl ?_
                  obtain ⟨bb, hbb⟩ : ∃ bb, ht_ch zo bb = zo.1 := ⟨false, rfl⟩
                  have hchf := hf1
                  have hchF := hzF
                  have hchc := hc1
                  refine lv_goto (tgt := 75) hx hb d_X_refresh_71 (by decide) ?_
                  refine lv_astore (lv' := [(4, .ref zo.1), (5, .ref a), (3, .ref a), (0, .ref (X 0)), (1, .int dp), (2, .int sp)]) hx hb d_X_refresh_75 hl (by decide) rfl (fun ls hl => ?_)
                  refine lv_aload hx hb d_X_refresh_77 (lv_at hl 0 rfl) ?_
                  refine lv_ifnull hx hb d_X_refresh_79 ?_
                  refine lv_iload_n hx hb d_X_refresh_82 rfl (lv_at hl 4 rfl) ?_
                  refine lv_sipush (v := 257) hx hb d_X_refresh_83 (by decide) ?_
                  refine lv_icmp_ge (tgt := 103) hx hb d_X_refresh_86 (by decide) (fun c86 => ?_) (fun c86 => ?_)
                  · exact absurd (show nI 257 ≤ nI (a :: r).length by rw [edp] at c86; exact c86) (nI_ge (by rw [List.length_cons]; omega) (by omega))
                  · refine lv_aload_n hx hb d_X_refresh_89 rfl (lv_at hl 3 rfl) ?_
                    refine ht_get (C := R_X) (T := F_X) (N := 9) (v := .ref (X 5)) hx hb htb i_X hown HW hX rfl 2 (by decide) (htb _ wd_42) (fun _ h9 => h9) rfl d_X_refresh_90 ?_
                    refine lv_iload_n hx hb d_X_refresh_93 rfl (lv_at hl 4 rfl) ?_
                    refine lv_aload hx hb d_X_refresh_94 (lv_at hl 0 rfl) ?_
                    refine ht_aast hx hb HW hOp (ht_anyN HW hchc) (by rw [edp]; exact vp_in_nI (by rw [List.length_cons]; omega) (by omega)) d_X_refresh_96 (fun H locs HW => ?_)
                    rw [edp, nI_clamp (by rw [List.length_cons]; omega)] at HW
                    obtain ⟨u7, hu7⟩ : ∃ zW : ht_W, zW = ht_up u (X 5) (ht_aq g 257 (va_up opi (a :: r).length (some zo.1))) := ⟨_, rfl⟩
                    have HW : ht_I g s u7 H locs := by rw [hu7]; exact HW
                    have hX : ht_at u7 (X 0) (.inr (0, [.ref (X 1), .ref (X 2), .ref (X 5), va_rf top, .int (nI L.length), .ref (X 6), .ref (X 7), .ref (X 8), .int ei]) : va_E) := by rw [hu7]; exact ht_at_ne hX n05
                    have hOp : ht_at u7 (X 5) (ht_aq g 257 (va_up opi (a :: r).length (some zo.1))) := by rw [hu7]; exact ht_at_self hOp
                    have hla : ht_at u7 a (.inr (3, [.ref (A a).1, .int (nI (ht_rl (Ni a))), .ref (A a).2.1, .int (ht_b1 (ht_rf (Ni a))), .ref zo.1, .ref zo.2]) : va_E) := by rw [hu7]; exact ht_at_ne hla na5
                    have hc1 : ht_at u7 zo.1 (ht_nc (Ni zo.1) ((A zo.1).1) ((A zo.1).2.1) ((A zo.1).2.2)) := by rw [hu7]; exact ht_at_ne hc1 nz5
                    have hc2 : ht_at u7 zo.2 (ht_nc (Ni zo.2) ((A zo.2).1) ((A zo.2).2.1) ((A zo.2).2.2)) := by rw [hu7]; exact ht_at_ne hc2 no5
                    obtain ⟨dp2, edp2⟩ : ∃ zI : Int32, zI = dp + 1 := ⟨_, rfl⟩
                    refine lv_iinc (v := dp2) (lv' := [(1, .int dp2), (4, .ref zo.1), (5, .ref a), (3, .ref a), (0, .ref (X 0)), (2, .int sp)]) hx hb d_X_refresh_97 hl (k := 4) rfl (by rw [edp2]; rfl) (by decide) rfl (fun ls hl => ?_)
                    refine lv_goto (tgt := 142) hx hb d_X_refresh_100 (by decide) ?_
                    obtain ⟨sp2, esp2⟩ : ∃ zI : Int32, zI = sp + 1 := ⟨_, rfl⟩
                    refine lv_iinc (v := sp2) (lv' := [(2, .int sp2), (1, .int dp2), (4, .ref zo.1), (5, .ref a), (3, .ref a), (0, .ref (X 0))]) hx hb d_X_refresh_142 hl (k := 5) rfl (by rw [esp2]; rfl) (by decide) rfl (fun ls hl => ?_)
                    refine lv_goto (tgt := 33) hx hb d_X_refresh_145 (by decide) ?_
                    refine ih (zo.1 :: a :: r) Ni dti _ u7 (st + 1) (by rw [hu7]; exact hRi.opn) hsmi (by rw [hu7]; exact hfri.trans (ht_fr.up (by rw [htgi.1 5 (by decide)]; decide))) ⟨hchF, hchf, ⟨zo, bb, hp, hbb⟩, hstk⟩ ⟨va_up_self _ _ _, hopsi.cg (fun i9 hi9 => va_up_ne _ _ (by omega))⟩ (fun z9 => by cases z9) (by simp only [List.length_cons] at hms ⊢; omega) (by omega) _ _ _ dp2 sp2 (by rw [edp2, edp, nI_1]; rfl) (by rw [esp2, esp, nI_1]) HW (lv_sub hl [5, 1, 0] rfl)
                · rw [if_pos hf1] at er
                  rcases hf2 : ht_rf (Ni zo.2) with _ | _
                  · rw [if_neg (by rw [hf2]; decide)] at er
                    subst er
                    refine W.eq (g2 := F0 _ 71 ls [.ref zo.2]) rfl ?_
                    obtain ⟨bb, hbb⟩ : ∃ bb, ht_ch zo bb = zo.2 := ⟨true, rfl⟩
                    have hchf := hf2
                    have hchF := hoF
                    have hchc := hc2
                    refine lv_goto (tgt := 75) hx hb d_X_refresh_71 (by decide) ?_
                    refine lv_astore (lv' := [(4, .ref zo.2), (5, .ref a), (3, .ref a), (0, .ref (X 0)), (1, .int dp), (2, .int sp)]) hx hb d_X_refresh_75 hl (by decide) rfl (fun ls hl => ?_)
                    refine lv_aload hx hb d_X_refresh_77 (lv_at hl 0 rfl) ?_
                    refine lv_ifnull hx hb d_X_refresh_79 ?_
                    refine lv_iload_n hx hb d_X_refresh_82 rfl (lv_at hl 4 rfl) ?_
                    refine lv_sipush (v := 257) hx hb d_X_refresh_83 (by decide) ?_
                    refine lv_icmp_ge (tgt := 103) hx hb d_X_refresh_86 (by decide) (fun c86 => ?_) (fun c86 => ?_)
                    · exact absurd (show nI 257 ≤ nI (a :: r).length by rw [edp] at c86; exact c86) (nI_ge (by rw [List.length_cons]; omega) (by omega))
                    · refine lv_aload_n hx hb d_X_refresh_89 rfl (lv_at hl 3 rfl) ?_
                      refine ht_get (C := R_X) (T := F_X) (N := 9) (v := .ref (X 5)) hx hb htb i_X hown HW hX rfl 2 (by decide) (htb _ wd_42) (fun _ h9 => h9) rfl d_X_refresh_90 ?_
                      refine lv_iload_n hx hb d_X_refresh_93 rfl (lv_at hl 4 rfl) ?_
                      refine lv_aload hx hb d_X_refresh_94 (lv_at hl 0 rfl) ?_
                      refine ht_aast hx hb HW hOp (ht_anyN HW hchc) (by rw [edp]; exact vp_in_nI (by rw [List.length_cons]; omega) (by omega)) d_X_refresh_96 (fun H locs HW => ?_)
                      rw [edp, nI_clamp (by rw [List.length_cons]; omega)] at HW
                      obtain ⟨u8, hu8⟩ : ∃ zW : ht_W, zW = ht_up u (X 5) (ht_aq g 257 (va_up opi (a :: r).length (some zo.2))) := ⟨_, rfl⟩
                      have HW : ht_I g s u8 H locs := by rw [hu8]; exact HW
                      have hX : ht_at u8 (X 0) (.inr (0, [.ref (X 1), .ref (X 2), .ref (X 5), va_rf top, .int (nI L.length), .ref (X 6), .ref (X 7), .ref (X 8), .int ei]) : va_E) := by rw [hu8]; exact ht_at_ne hX n05
                      have hOp : ht_at u8 (X 5) (ht_aq g 257 (va_up opi (a :: r).length (some zo.2))) := by rw [hu8]; exact ht_at_self hOp
                      have hla : ht_at u8 a (.inr (3, [.ref (A a).1, .int (nI (ht_rl (Ni a))), .ref (A a).2.1, .int (ht_b1 (ht_rf (Ni a))), .ref zo.1, .ref zo.2]) : va_E) := by rw [hu8]; exact ht_at_ne hla na5
                      have hc1 : ht_at u8 zo.1 (ht_nc (Ni zo.1) ((A zo.1).1) ((A zo.1).2.1) ((A zo.1).2.2)) := by rw [hu8]; exact ht_at_ne hc1 nz5
                      have hc2 : ht_at u8 zo.2 (ht_nc (Ni zo.2) ((A zo.2).1) ((A zo.2).2.1) ((A zo.2).2.2)) := by rw [hu8]; exact ht_at_ne hc2 no5
                      obtain ⟨dp2, edp2⟩ : ∃ zI : Int32, zI = dp + 1 := ⟨_, rfl⟩
                      refine lv_iinc (v := dp2) (lv' := [(1, .int dp2), (4, .ref zo.2), (5, .ref a), (3, .ref a), (0, .ref (X 0)), (2, .int sp)]) hx hb d_X_refresh_97 hl (k := 4) rfl (by rw [edp2]; rfl) (by decide) rfl (fun ls hl => ?_)
                      refine lv_goto (tgt := 142) hx hb d_X_refresh_100 (by decide) ?_
                      obtain ⟨sp2, esp2⟩ : ∃ zI : Int32, zI = sp + 1 := ⟨_, rfl⟩
                      refine lv_iinc (v := sp2) (lv' := [(2, .int sp2), (1, .int dp2), (4, .ref zo.2), (5, .ref a), (3, .ref a), (0, .ref (X 0))]) hx hb d_X_refresh_142 hl (k := 5) rfl (by rw [esp2]; rfl) (by decide) rfl (fun ls hl => ?_)
                      refine lv_goto (tgt := 33) hx hb d_X_refresh_145 (by decide) ?_
                      refine ih (zo.2 :: a :: r) Ni dti _ u8 (st + 1) (by rw [hu8]; exact hRi.opn) hsmi (by rw [hu8]; exact hfri.trans (ht_fr.up (by rw [htgi.1 5 (by decide)]; decide))) ⟨hchF, hchf, ⟨zo, bb, hp, hbb⟩, hstk⟩ ⟨va_up_self _ _ _, hopsi.cg (fun i9 hi9 => va_up_ne _ _ (by omega))⟩ (fun z9 => by cases z9) (by simp only [List.length_cons] at hms ⊢; omega) (by omega) _ _ _ dp2 sp2 (by rw [edp2, edp, nI_1]; rfl) (by rw [esp2, esp, nI_1]) HW (lv_sub hl [5, 1, 0] rfl)
                  · rw [if_pos hf2] at er
                    subst er
                    refine W.eq (g2 := F0 _ 71 ls [.null]) rfl ?_
                    refine lv_goto (tgt := 75) hx hb d_X_refresh_71 (by decide) ?_
                    refine lv_astoreN (lv' := [(4, .null), (5, .ref a), (3, .ref a), (0, .ref (X 0)), (1, .int dp), (2, .int sp)]) hx hb d_X_refresh_75 hl (by decide) rfl (fun ls hl => ?_)
                    refine lv_aloadN hx hb d_X_refresh_77 (lv_at hl 0 rfl) ?_
                    refine lv_ifnullN (tgt := 103) hx hb d_X_refresh_79 (by decide) ?_
                    have hchl : ∀ zo9, ht_rp (Ni a) = .inr zo9 → ∀ b9, ht_rf (Ni (ht_ch zo9 b9)) = true := fun zo9 hz9 b9 => by
                      rw [hp] at hz9
                      cases hz9
                      cases b9
                      · exact hf1
                      · exact hf2
                    rcases r with _ | ⟨p, r2⟩
                    · have hpar : (0 = 0 ∧ top = some a) ∨ ∃ p zo b, p ∈ F ∧ ht_rp (Ni p) = .inr zo ∧ ht_ch zo b = a ∧ 0 = ht_rl (Ni p) + 1 := Or.inl ⟨rfl, hstk.2.2⟩
                      refine lv_aload_n hx hb d_X_refresh_103 rfl (lv_at hl 3 rfl) ?_
                      refine lv_aload_n hx hb d_X_refresh_104 rfl (lv_at hl 2 rfl) ?_
                      refine lv_iload_n hx hb d_X_refresh_105 rfl (lv_at hl 4 rfl) ?_
                      refine lv_iconst (v := 1) hx hb d_X_refresh_106 (by decide) ?_
                      refine lv_icmp_le (tgt := 126) hx hb d_X_refresh_107 (by decide) (fun c107 => ?_) (fun c107 => ?_)
                      · refine lv_iconst (v := 0) hx hb d_X_refresh_126 (by decide) ?_
                        refine lv_aload_n hx hb d_X_refresh_127 rfl (lv_at hl 2 rfl) ?_
                        refine ht_get (C := R_B) (T := F_B) (N := 6) (v := .ref (A a).2.1) hx hb htb i_B hown HW hla rfl 2 (by decide) (htb _ wd_137) (fun _ h9 => h9) rfl d_X_refresh_128 ?_
                        refine ht_cv HW (va_runV (own := R_X) (C := R_X) (As := [.ref a, .int 0, .ref (A a).2.1]) (rest := []) ⟨hx, hb, hml, hown, htb⟩ (c_X_hashAt_B l g u hX hDgi hNi hTi haF hha hne hp 0 (by omega) 0 rfl) (cwV 3 htb (ht_gv wd_217 wd_219 sl_6 wd_1 g_X_hashAt) rfl rfl rfl (by decide +kernel) ⟨Nat.le_of_ble_eq_true rfl, Nat.le_of_ble_eq_true rfl⟩) (HW.preV hX rfl _) rfl rfl hl.1 rfl (lv_room (Nat.le_of_ble_eq_true rfl)) d_X_refresh_131 ⟨Nat.le_of_ble_eq_true rfl, Nat.le_of_ble_eq_true rfl⟩) (fun u9 H locs ph HW => ?_)
                        obtain ⟨dt1, eu9⟩ := ph
                        obtain ⟨HV, eHV⟩ : ∃ z9 : ht_K, z9 = (ht_chn (ht_rk (Ni a)) (ht_rl (Ni a)) (ht_dgf 1 (ht_rh (Ni zo.1)) (ht_rh (Ni zo.2))) (ht_rl (Ni a) - 0)) := ⟨_, rfl⟩
                        rw [← eHV] at eu9
                        have hHV : HV = ht_h ht_dgf (256 - 0) (ht_U Ni L a) := by
                          rw [eHV]
                          exact (by
                          rw [hTi.hash_cv haF hp (hz := ht_rh (Ni zo.1)) (ho := ht_rh (Ni zo.2)) ((hFi.2 a haF zo hp false).1 hf1) ((hFi.2 a haF zo hp true).1 hf2) _ (Nat.sub_le _ _), show ht_rl (Ni a) - (ht_rl (Ni a) - 0) = 0 by omega])
                        have hF2 := ht_FH.pop hTi hFi haF hchl hpar hHV
                        have hR2 := hRi.pop (dt' := dt1) haF hF2
                        have hna : ht_at u9 a (ht_nc (ht_sh (Ni a) HV) (A a).1 (A a).2.1 (A a).2.2) := by
                          rw [eu9]
                          exact ht_at_ne (ht_Dg.ne (hNi a haF).1 (fun z9 => hRi.out 2 (by decide) (by rw [← z9]; exact haF)) (fun z9 => hRi.out 3 (by decide) (by rw [← z9]; exact haF)) (fun z9 => hRi.out 4 (by decide) (by rw [← z9]; exact haF))) (ht_tne (htgi.2 a haF).1 (htgi.2 a haF).2.2.1 (fun z9 => by cases z9))
                        refine lv_aload_n hx hb d_X_refresh_134 rfl (lv_at hl 2 rfl) ?_
                        refine lv_iconst (v := 1) hx hb d_X_refresh_135 (by decide) ?_
                        refine ht_npt (b := true) hx hb htb hown HW hna (htb _ wd_142) (fun _ h9 => h9) d_X_refresh_136 (fun H locs HW => ?_)
                        obtain ⟨u10, hu10⟩ : ∃ zW : ht_W, zW = ht_up u9 a (ht_nc (ht_sf (ht_sh (Ni a) HV) true) ((A a).1) ((A a).2.1) ((A a).2.2)) := ⟨_, rfl⟩
                        have HW : ht_I g s u10 H locs := by rw [hu10]; exact HW
                        have hna : ht_at u10 a (ht_nc (ht_sf (ht_sh (Ni a) HV) true) ((A a).1) ((A a).2.1) ((A a).2.2)) := by rw [hu10]; exact ht_at_self hna
                        obtain ⟨dp2, edp2⟩ : ∃ zI : Int32, zI = dp + (-1) := ⟨_, rfl⟩
                        refine lv_iinc (v := dp2) (lv' := [(1, .int dp2), (4, .null), (5, .ref a), (3, .ref a), (0, .ref (X 0)), (2, .int sp)]) hx hb d_X_refresh_139 hl (k := 4) rfl (by rw [edp2]; rfl) (by decide) rfl (fun ls hl => ?_)
                        obtain ⟨sp2, esp2⟩ : ∃ zI : Int32, zI = sp + 1 := ⟨_, rfl⟩
                        refine lv_iinc (v := sp2) (lv' := [(2, .int sp2), (1, .int dp2), (4, .null), (5, .ref a), (3, .ref a), (0, .ref (X 0))]) hx hb d_X_refresh_142 hl (k := 5) rfl (by rw [esp2]; rfl) (by decide) rfl (fun ls hl => ?_)
                        refine lv_goto (tgt := 33) hx hb d_X_refresh_145 (by decide) ?_
                        have hRz : ht_Rp ht_dgf g u10 X tg k (va_up Ni a (ht_sf (ht_sh (Ni a) HV) true)) A F top L dt1 opi sbf lsf enf ei := by rw [hu10, eu9]; exact hR2
                        have hst2 := ht_st_pop (HV := HV) hTi.1 haF hstk.hd.2
                        refine ih [] _ dt1 opi u10 (st + 1) hRz (hsmi.pop a HV) ?_ ?_ hopsi.2 ?_ ?_ (by omega) _ _ _ dp2 sp2 ?_ (by rw [esp2, esp, nI_1]) HW (lv_sub hl [5, 1, 0] rfl)
                        · rw [hu10, eu9]
                          exact ((hfri.trans (ht_frp (by rw [htgi.1 2 (by decide)]; decide) (by rw [htgi.1 3 (by decide)]; decide) (by rw [htgi.1 4 (by decide)]; decide))).trans (ht_fr.up (by rw [(htgi.2 a haF).2.2.1]; exact fun z9 => by cases z9))).trans (ht_fr.up (by rw [(htgi.2 a haF).1]; decide))
                        · refine hstk.tl.cg (fun x9 hx9 => ?_)
                          have nx9 : x9 ≠ a := fun z9 => Nat.lt_irrefl _ ((ht_stk.lt hTi hstk).2 a (by rw [← z9]; exact hx9))
                          rw [va_up_ne _ _ nx9]
                          exact ⟨rfl, rfl⟩
                        · intro _ t9 ht9
                          rw [hstk.2.2] at ht9
                          cases ht9
                          rw [va_up_self]
                          rfl
                        · simp only [List.length_cons] at hms ⊢
                          omega
                        · rw [edp2, edp]
                          exact pk_m1 _
                      · exact absurd (by rw [edp]; exact Int32.le_refl 1) c107
                    · obtain ⟨zp, bp, hpz, hpe⟩ := hstk.2.2.1
                      have hpF := hstk.2.2.2.hd.1
                      have hpc := (hNi p hpF).1
                      have hpl := (hTi.half hpF hpz bp).2.2.1
                      rw [hpe] at hpl
                      have hpar : (ht_rl (Ni p) + 1 = 0 ∧ top = some a) ∨ ∃ p1 zo b, p1 ∈ F ∧ ht_rp (Ni p1) = .inr zo ∧ ht_ch zo b = a ∧ ht_rl (Ni p) + 1 = ht_rl (Ni p1) + 1 := Or.inr ⟨p, zp, bp, hpF, hpz, hpe, rfl⟩
                      refine lv_aload_n hx hb d_X_refresh_103 rfl (lv_at hl 3 rfl) ?_
                      refine lv_aload_n hx hb d_X_refresh_104 rfl (lv_at hl 2 rfl) ?_
                      refine lv_iload_n hx hb d_X_refresh_105 rfl (lv_at hl 4 rfl) ?_
                      refine lv_iconst (v := 1) hx hb d_X_refresh_106 (by decide) ?_
                      refine lv_icmp_le (tgt := 126) hx hb d_X_refresh_107 (by decide) (fun c107 => ?_) (fun c107 => ?_)
                      · exact absurd (show nI (a :: p :: r2).length ≤ nI 1 by rw [edp] at c107; exact c107) (nI_ge (by simp) (by simp only [List.length_cons] at hlen257 ⊢; omega))
                      · refine lv_aload_n hx hb d_X_refresh_110 rfl (lv_at hl 3 rfl) ?_
                        refine ht_get (C := R_X) (T := F_X) (N := 9) (v := .ref (X 5)) hx hb htb i_X hown HW hX rfl 2 (by decide) (htb _ wd_42) (fun _ h9 => h9) rfl d_X_refresh_111 ?_
                        refine lv_iload_n hx hb d_X_refresh_114 rfl (lv_at hl 4 rfl) ?_
                        refine lv_iconst (v := 2) hx hb d_X_refresh_115 (by decide) ?_
                        refine lv_isub hx hb d_X_refresh_116 ?_
                        refine lv_topi (fun i2 ei2 => ?_)
                        have hi2 : i2 = nI r2.length := by rw [ei2]; exact ht_sb (b := 2) edp rfl (by simp only [List.length_cons]; omega)
                        refine ht_aald hx hb HW hOp (by rw [hi2]; exact vp_in_nI (by simp only [List.length_cons] at hlen257; omega) (by omega)) d_X_refresh_117 ?_
                        rw [hi2, nI_clamp (by simp only [List.length_cons] at hlen257; omega), hopsi.2.1]
                        refine W.eq (g2 := F0 _ 118 ls [.ref p, .ref a, .ref (X 0)]) rfl ?_
                        refine ht_ngt hx hb htb hown HW hpc 1 (by decide) (htb _ wd_135) (fun _ h9 => h9) (v := .int (nI (ht_rl (Ni p)))) rfl d_X_refresh_118 ?_
                        refine lv_iconst (v := 1) hx hb d_X_refresh_121 (by decide) ?_
                        refine lv_iadd hx hb d_X_refresh_122 ?_
                        refine lv_topi (fun lvl elvl => ?_)
                        have elvl : lvl = nI (ht_rl (Ni p) + 1) := by rw [elvl, nI_1]
                        refine lv_goto (tgt := 127) hx hb d_X_refresh_123 (by decide) ?_
                        refine lv_aload_n hx hb d_X_refresh_127 rfl (lv_at hl 2 rfl) ?_
                        refine ht_get (C := R_B) (T := F_B) (N := 6) (v := .ref (A a).2.1) hx hb htb i_B hown HW hla rfl 2 (by decide) (htb _ wd_137) (fun _ h9 => h9) rfl d_X_refresh_128 ?_
                        refine ht_cv HW (va_runV (own := R_X) (C := R_X) (As := [.ref a, .int lvl, .ref (A a).2.1]) (rest := []) ⟨hx, hb, hml, hown, htb⟩ (c_X_hashAt_B l g u hX hDgi hNi hTi haF hha hne hp (ht_rl (Ni p) + 1) (by omega) lvl elvl) (cwV 3 htb (ht_gv wd_217 wd_219 sl_6 wd_1 g_X_hashAt) rfl rfl rfl (by decide +kernel) ⟨Nat.le_of_ble_eq_true rfl, Nat.le_of_ble_eq_true rfl⟩) (HW.preV hX rfl _) rfl rfl hl.1 rfl (lv_room (Nat.le_of_ble_eq_true rfl)) d_X_refresh_131 ⟨Nat.le_of_ble_eq_true rfl, Nat.le_of_ble_eq_true rfl⟩) (fun u11 H locs ph HW => ?_)
                        obtain ⟨dt1, eu11⟩ := ph
                        obtain ⟨HV, eHV⟩ : ∃ z9 : ht_K, z9 = (ht_chn (ht_rk (Ni a)) (ht_rl (Ni a)) (ht_dgf 1 (ht_rh (Ni zo.1)) (ht_rh (Ni zo.2))) (ht_rl (Ni a) - (ht_rl (Ni p) + 1))) := ⟨_, rfl⟩
                        rw [← eHV] at eu11
                        have hHV : HV = ht_h ht_dgf (256 - (ht_rl (Ni p) + 1)) (ht_U Ni L a) := by
                          rw [eHV]
                          exact (by
                          rw [hTi.hash_cv haF hp (hz := ht_rh (Ni zo.1)) (ho := ht_rh (Ni zo.2)) ((hFi.2 a haF zo hp false).1 hf1) ((hFi.2 a haF zo hp true).1 hf2) _ (Nat.sub_le _ _), show ht_rl (Ni a) - (ht_rl (Ni a) - (ht_rl (Ni p) + 1)) = (ht_rl (Ni p) + 1) by omega])
                        have hF2 := ht_FH.pop hTi hFi haF hchl hpar hHV
                        have hR2 := hRi.pop (dt' := dt1) haF hF2
                        have hna : ht_at u11 a (ht_nc (ht_sh (Ni a) HV) (A a).1 (A a).2.1 (A a).2.2) := by
                          rw [eu11]
                          exact ht_at_ne (ht_Dg.ne (hNi a haF).1 (fun z9 => hRi.out 2 (by decide) (by rw [← z9]; exact haF)) (fun z9 => hRi.out 3 (by decide) (by rw [← z9]; exact haF)) (fun z9 => hRi.out 4 (by decide) (by rw [← z9]; exact haF))) (ht_tne (htgi.2 a haF).1 (htgi.2 a haF).2.2.1 (fun z9 => by cases z9))
                        refine lv_aload_n hx hb d_X_refresh_134 rfl (lv_at hl 2 rfl) ?_
                        refine lv_iconst (v := 1) hx hb d_X_refresh_135 (by decide) ?_
                        refine ht_npt (b := true) hx hb htb hown HW hna (htb _ wd_142) (fun _ h9 => h9) d_X_refresh_136 (fun H locs HW => ?_)
                        obtain ⟨u12, hu12⟩ : ∃ zW : ht_W, zW = ht_up u11 a (ht_nc (ht_sf (ht_sh (Ni a) HV) true) ((A a).1) ((A a).2.1) ((A a).2.2)) := ⟨_, rfl⟩
                        have HW : ht_I g s u12 H locs := by rw [hu12]; exact HW
                        have hna : ht_at u12 a (ht_nc (ht_sf (ht_sh (Ni a) HV) true) ((A a).1) ((A a).2.1) ((A a).2.2)) := by rw [hu12]; exact ht_at_self hna
                        obtain ⟨dp2, edp2⟩ : ∃ zI : Int32, zI = dp + (-1) := ⟨_, rfl⟩
                        refine lv_iinc (v := dp2) (lv' := [(1, .int dp2), (4, .null), (5, .ref a), (3, .ref a), (0, .ref (X 0)), (2, .int sp)]) hx hb d_X_refresh_139 hl (k := 4) rfl (by rw [edp2]; rfl) (by decide) rfl (fun ls hl => ?_)
                        obtain ⟨sp2, esp2⟩ : ∃ zI : Int32, zI = sp + 1 := ⟨_, rfl⟩
                        refine lv_iinc (v := sp2) (lv' := [(2, .int sp2), (1, .int dp2), (4, .null), (5, .ref a), (3, .ref a), (0, .ref (X 0))]) hx hb d_X_refresh_142 hl (k := 5) rfl (by rw [esp2]; rfl) (by decide) rfl (fun ls hl => ?_)
                        refine lv_goto (tgt := 33) hx hb d_X_refresh_145 (by decide) ?_
                        have hRz : ht_Rp ht_dgf g u12 X tg k (va_up Ni a (ht_sf (ht_sh (Ni a) HV) true)) A F top L dt1 opi sbf lsf enf ei := by rw [hu12, eu11]; exact hR2
                        have hst2 := ht_st_pop (HV := HV) hTi.1 haF hstk.hd.2
                        refine ih (p :: r2) _ dt1 opi u12 (st + 1) hRz (hsmi.pop a HV) ?_ ?_ hopsi.2 ?_ ?_ (by omega) _ _ _ dp2 sp2 ?_ (by rw [esp2, esp, nI_1]) HW (lv_sub hl [5, 1, 0] rfl)
                        · rw [hu12, eu11]
                          exact ((hfri.trans (ht_frp (by rw [htgi.1 2 (by decide)]; decide) (by rw [htgi.1 3 (by decide)]; decide) (by rw [htgi.1 4 (by decide)]; decide))).trans (ht_fr.up (by rw [(htgi.2 a haF).2.2.1]; exact fun z9 => by cases z9))).trans (ht_fr.up (by rw [(htgi.2 a haF).1]; decide))
                        · refine hstk.tl.cg (fun x9 hx9 => ?_)
                          have nx9 : x9 ≠ a := fun z9 => Nat.lt_irrefl _ ((ht_stk.lt hTi hstk).2 a (by rw [← z9]; exact hx9))
                          rw [va_up_ne _ _ nx9]
                          exact ⟨rfl, rfl⟩
                        · intro z9
                          cases z9
                        · simp only [List.length_cons] at hms ⊢
                          omega
                        · rw [edp2, edp]
                          exact pk_m1 _
  cases top with
  | none =>
    refine lv_iconst (v := 0) hx hb d_X_refresh_0 (by decide) ?_
    refine lv_istore_n (lv' := [(1, .int 0), (0, .ref (X 0))]) hx hb d_X_refresh_1 rfl hl (by decide) rfl (fun ls hl => ?_)
    refine lv_aload_n hx hb d_X_refresh_2 rfl (lv_at hl 1 rfl) ?_
    refine ht_get (C := R_X) (T := F_X) (N := 9) (v := .null) hx hb htb i_X hown HW hX rfl 3 (by decide) (htb _ wd_43) (fun _ h9 => h9) rfl d_X_refresh_3 ?_
    refine lv_ifnullN (tgt := 31) hx hb d_X_refresh_6 (by decide) ?_
    refine lv_iconst (v := 0) hx hb d_X_refresh_31 (by decide) ?_
    refine lv_istore_n (lv' := [(2, .int 0), (1, .int 0), (0, .ref (X 0))]) hx hb d_X_refresh_32 rfl hl (by decide) rfl (fun ls hl => ?_)
    exact loop 0 [] N dt opf w 0 hR ht_sm.rf ht_fr.rf trivial trivial (fun _ t9 h9 => by cases h9) (by rw [(hT.2.2.1.2 rfl).1]; exact Nat.le_refl 0) (by omega) _ _ _ 0 0 rfl rfl HW (lv_sub hl [2, 1, 0] rfl)
  | some t =>
    have htF := (hT.2.2.1.1 t rfl).1
    have htc := (hN t htF).1
    have n05 : X 0 ≠ X 5 := ht_tne (htg.1 0 (by decide)) (htg.1 5 (by decide)) (by decide)
    have nt5 : t ≠ X 5 := fun z9 => hR.out 5 (by decide) (by rw [← z9]; exact htF)
    have nt0 : X 0 ≠ t := fun z9 => hR.out 0 (by decide) (by rw [z9]; exact htF)
    have hstF : ht_st N F ≤ F.length := List.length_filter_le _ _
    have hst1 : ht_rf (N t) = false → 1 ≤ ht_st N F := fun h9 => List.length_pos_of_mem (List.mem_filter.mpr ⟨htF, by rw [h9]; rfl⟩)
    refine lv_iconst (v := 0) hx hb d_X_refresh_0 (by decide) ?_
    refine lv_istore_n (lv' := [(1, .int 0), (0, .ref (X 0))]) hx hb d_X_refresh_1 rfl hl (by decide) rfl (fun ls hl => ?_)
    refine lv_aload_n hx hb d_X_refresh_2 rfl (lv_at hl 1 rfl) ?_
    refine ht_get (C := R_X) (T := F_X) (N := 9) (v := .ref t) hx hb htb i_X hown HW hX rfl 3 (by decide) (htb _ wd_43) (fun _ h9 => h9) rfl d_X_refresh_3 ?_
    refine lv_ifnull hx hb d_X_refresh_6 ?_
    refine lv_aload_n hx hb d_X_refresh_9 rfl (lv_at hl 1 rfl) ?_
    refine ht_get (C := R_X) (T := F_X) (N := 9) (v := .ref t) hx hb htb i_X hown HW hX rfl 3 (by decide) (htb _ wd_43) (fun _ h9 => h9) rfl d_X_refresh_10 ?_
    refine ht_ngt hx hb htb hown HW htc 3 (by decide) (htb _ wd_142) (fun _ h9 => h9) (v := .int (ht_b1 (ht_rf (N t)))) rfl d_X_refresh_13 ?_
    refine lv_if_ne (tgt := 31) hx hb d_X_refresh_16 (by decide) (fun c16 => ?_) (fun c16 => ?_)
    · have hfr0 := ht_b1_1 c16
      refine lv_iconst (v := 0) hx hb d_X_refresh_31 (by decide) ?_
      refine lv_istore_n (lv' := [(2, .int 0), (1, .int 0), (0, .ref (X 0))]) hx hb d_X_refresh_32 rfl hl (by decide) rfl (fun ls hl => ?_)
      exact loop (2 * ht_st N F) [] N dt opf w 0 hR ht_sm.rf ht_fr.rf trivial trivial (fun _ t9 h9 => by cases h9; exact hfr0) (Nat.le_refl _) (by omega) _ _ _ 0 0 rfl rfl HW (lv_sub hl [2, 1, 0] rfl)
    · have hfr0 := ht_b1_0 c16
      refine lv_aload_n hx hb d_X_refresh_19 rfl (lv_at hl 1 rfl) ?_
      refine ht_get (C := R_X) (T := F_X) (N := 9) (v := .ref (X 5)) hx hb htb i_X hown HW hX rfl 2 (by decide) (htb _ wd_42) (fun _ h9 => h9) rfl d_X_refresh_20 ?_
      refine lv_iconst (v := 0) hx hb d_X_refresh_23 (by decide) ?_
      refine lv_aload_n hx hb d_X_refresh_24 rfl (lv_at hl 1 rfl) ?_
      refine ht_get (C := R_X) (T := F_X) (N := 9) (v := .ref t) hx hb htb i_X hown HW hX rfl 3 (by decide) (htb _ wd_43) (fun _ h9 => h9) rfl d_X_refresh_25 ?_
      refine ht_aast hx hb HW hOp (ht_anyN HW htc) (by unfold vp_in; decide) d_X_refresh_28 (fun H locs HW => ?_)
      obtain ⟨u1, hu1⟩ : ∃ zW : ht_W, zW = ht_up w (X 5) (ht_aq g 257 (va_up opf 0 (some t))) := ⟨_, rfl⟩
      have HW : ht_I g s u1 H locs := by rw [hu1]; exact HW
      have hX : ht_at u1 (X 0) (.inr (0, [.ref (X 1), .ref (X 2), .ref (X 5), .ref t, .int (nI L.length), .ref (X 6), .ref (X 7), .ref (X 8), .int ei]) : va_E) := by rw [hu1]; exact ht_at_ne hX n05
      have hOp : ht_at u1 (X 5) (ht_aq g 257 (va_up opf 0 (some t))) := by rw [hu1]; exact ht_at_self hOp
      have htc : ht_at u1 t (ht_nc (N t) ((A t).1) ((A t).2.1) ((A t).2.2)) := by rw [hu1]; exact ht_at_ne htc nt5
      refine lv_iconst (v := 1) hx hb d_X_refresh_29 (by decide) ?_
      refine lv_istore_n (lv' := [(1, .int 1), (0, .ref (X 0))]) hx hb d_X_refresh_30 rfl hl (by decide) rfl (fun ls hl => ?_)
      refine lv_iconst (v := 0) hx hb d_X_refresh_31 (by decide) ?_
      refine lv_istore_n (lv' := [(2, .int 0), (1, .int 1), (0, .ref (X 0))]) hx hb d_X_refresh_32 rfl hl (by decide) rfl (fun ls hl => ?_)
      exact loop (2 * ht_st N F - 1) [t] N dt _ u1 0 (by rw [hu1]; exact hR.opn) ht_sm.rf (by rw [hu1]; exact ht_fr.up (by rw [htg.1 5 (by decide)]; decide)) ⟨htF, hfr0, rfl⟩ ⟨va_up_self _ _ _, trivial⟩ (fun z9 => by cases z9) (by simp only [List.length_cons, List.length_nil]; omega) (by omega) _ _ _ 1 0 rfl rfl HW (lv_sub hl [2, 1, 0] rfl)
end
section
theorem ht_Rp.sb {dgf : Int32 → ht_K → ht_K → ht_K} {g : ht_G} {w : ht_W} {X : Nat → Nat} {tg : Nat → Nat × Nat} {k : ht_K} {N : ht_N} {A : ht_AA} {F : List Nat} {top : Option Nat} {L : ht_L} {dt : ht_D} {opf : Nat → Option Nat} {sbf lsf enf : Nat → Int64} {ei : Int32} {f : Nat → Int64} (h : ht_Rp dgf g w X tg k N A F top L dt opf sbf lsf enf ei) : ht_Rp dgf g (ht_up w (X 6) (ht_al g 1024 f)) X tg k N A F top L dt opf f lsf enf ei := by
  obtain ⟨h1, h2, h3, h4, h5, h6, h7, h8, h9, h10, h11, h12⟩ := id h
  have hne : ∀ i, i < 9 → i ≠ 6 → X i ≠ X 6 := fun i hi hn => ht_tne (h11.1 i hi) (h11.1 6 (by decide)) (fun z => hn (by injection z))
  refine ⟨ht_at_ne h1 (hne 0 (by decide) (by decide)), ht_at_ne h2 (hne 1 (by decide) (by decide)), ⟨ht_at_ne h3.1 (hne 2 (by decide) (by decide)), ht_at_ne h3.2.1 (hne 3 (by decide) (by decide)), ht_at_ne h3.2.2 (hne 4 (by decide) (by decide))⟩, ht_at_ne h4 (hne 5 (by decide) (by decide)), ht_at_self h5, ht_at_ne h6 (hne 7 (by decide) (by decide)), ht_at_ne h7 (hne 8 (by decide) (by decide)), fun a ha => ?_, h9, h10, h11, h12⟩
  obtain ⟨q1, q2, q3, q4⟩ := h8 a ha
  obtain ⟨t1, t2, t3, t4⟩ := h11.2 a ha
  have tx := h11.1 6 (by decide)
  exact ⟨ht_at_ne q1 (ht_tne t1 tx (fun z => by cases z)), ht_at_ne q2 (ht_tne t2 tx (fun z => by cases z)), ht_at_ne q3 (ht_tne t3 tx (fun z => by cases z)), fun v hv => ht_at_ne (q4 v hv) (ht_tne (t4 v hv) tx (fun z => by cases z))⟩
theorem ht_Rp.ls {dgf : Int32 → ht_K → ht_K → ht_K} {g : ht_G} {w : ht_W} {X : Nat → Nat} {tg : Nat → Nat × Nat} {k : ht_K} {N : ht_N} {A : ht_AA} {F : List Nat} {top : Option Nat} {L : ht_L} {dt : ht_D} {opf : Nat → Option Nat} {sbf lsf enf : Nat → Int64} {ei : Int32} {f : Nat → Int64} (h : ht_Rp dgf g w X tg k N A F top L dt opf sbf lsf enf ei) : ht_Rp dgf g (ht_up w (X 7) (ht_al g 4 f)) X tg k N A F top L dt opf sbf f enf ei := by
  obtain ⟨h1, h2, h3, h4, h5, h6, h7, h8, h9, h10, h11, h12⟩ := id h
  have hne : ∀ i, i < 9 → i ≠ 7 → X i ≠ X 7 := fun i hi hn => ht_tne (h11.1 i hi) (h11.1 7 (by decide)) (fun z => hn (by injection z))
  refine ⟨ht_at_ne h1 (hne 0 (by decide) (by decide)), ht_at_ne h2 (hne 1 (by decide) (by decide)), ⟨ht_at_ne h3.1 (hne 2 (by decide) (by decide)), ht_at_ne h3.2.1 (hne 3 (by decide) (by decide)), ht_at_ne h3.2.2 (hne 4 (by decide) (by decide))⟩, ht_at_ne h4 (hne 5 (by decide) (by decide)), ht_at_ne h5 (hne 6 (by decide) (by decide)), ht_at_self h6, ht_at_ne h7 (hne 8 (by decide) (by decide)), fun a ha => ?_, h9, h10, h11, h12⟩
  obtain ⟨q1, q2, q3, q4⟩ := h8 a ha
  obtain ⟨t1, t2, t3, t4⟩ := h11.2 a ha
  have tx := h11.1 7 (by decide)
  exact ⟨ht_at_ne q1 (ht_tne t1 tx (fun z => by cases z)), ht_at_ne q2 (ht_tne t2 tx (fun z => by cases z)), ht_at_ne q3 (ht_tne t3 tx (fun z => by cases z)), fun v hv => ht_at_ne (q4 v hv) (ht_tne (t4 v hv) tx (fun z => by cases z))⟩
theorem ht_Rp.en {dgf : Int32 → ht_K → ht_K → ht_K} {g : ht_G} {w : ht_W} {X : Nat → Nat} {tg : Nat → Nat × Nat} {k : ht_K} {N : ht_N} {A : ht_AA} {F : List Nat} {top : Option Nat} {L : ht_L} {dt : ht_D} {opf : Nat → Option Nat} {sbf lsf enf : Nat → Int64} {ei : Int32} {f : Nat → Int64} (h : ht_Rp dgf g w X tg k N A F top L dt opf sbf lsf enf ei) : ht_Rp dgf g (ht_up w (X 8) (ht_al g 8 f)) X tg k N A F top L dt opf sbf lsf f ei := by
  obtain ⟨h1, h2, h3, h4, h5, h6, h7, h8, h9, h10, h11, h12⟩ := id h
  have hne : ∀ i, i < 9 → i ≠ 8 → X i ≠ X 8 := fun i hi hn => ht_tne (h11.1 i hi) (h11.1 8 (by decide)) (fun z => hn (by injection z))
  refine ⟨ht_at_ne h1 (hne 0 (by decide) (by decide)), ht_at_ne h2 (hne 1 (by decide) (by decide)), ⟨ht_at_ne h3.1 (hne 2 (by decide) (by decide)), ht_at_ne h3.2.1 (hne 3 (by decide) (by decide)), ht_at_ne h3.2.2 (hne 4 (by decide) (by decide))⟩, ht_at_ne h4 (hne 5 (by decide) (by decide)), ht_at_ne h5 (hne 6 (by decide) (by decide)), ht_at_ne h6 (hne 7 (by decide) (by decide)), ht_at_self h7, fun a ha => ?_, h9, h10, h11, h12⟩
  obtain ⟨q1, q2, q3, q4⟩ := h8 a ha
  obtain ⟨t1, t2, t3, t4⟩ := h11.2 a ha
  have tx := h11.1 8 (by decide)
  exact ⟨ht_at_ne q1 (ht_tne t1 tx (fun z => by cases z)), ht_at_ne q2 (ht_tne t2 tx (fun z => by cases z)), ht_at_ne q3 (ht_tne t3 tx (fun z => by cases z)), fun v hv => ht_at_ne (q4 v hv) (ht_tne (t4 v hv) tx (fun z => by cases z))⟩
theorem ht_Rp.ei {dgf : Int32 → ht_K → ht_K → ht_K} {g : ht_G} {w : ht_W} {X : Nat → Nat} {tg : Nat → Nat × Nat} {k : ht_K} {N : ht_N} {A : ht_AA} {F : List Nat} {top : Option Nat} {L : ht_L} {dt : ht_D} {opf : Nat → Option Nat} {sbf lsf enf : Nat → Int64} {ei : Int32} {x : Int32} (h : ht_Rp dgf g w X tg k N A F top L dt opf sbf lsf enf ei) : ht_Rp dgf g (ht_up w (X 0) (ht_xo X top (nI L.length) x)) X tg k N A F top L dt opf sbf lsf enf x := by
  obtain ⟨h1, h2, h3, h4, h5, h6, h7, h8, h9, h10, h11, h12⟩ := id h
  have hne : ∀ i, i < 9 → i ≠ 0 → X i ≠ X 0 := fun i hi hn => ht_tne (h11.1 i hi) (h11.1 0 (by decide)) (fun z => hn (by injection z))
  refine ⟨ht_at_self h1, ht_at_ne h2 (hne 1 (by decide) (by decide)), ⟨ht_at_ne h3.1 (hne 2 (by decide) (by decide)), ht_at_ne h3.2.1 (hne 3 (by decide) (by decide)), ht_at_ne h3.2.2 (hne 4 (by decide) (by decide))⟩, ht_at_ne h4 (hne 5 (by decide) (by decide)), ht_at_ne h5 (hne 6 (by decide) (by decide)), ht_at_ne h6 (hne 7 (by decide) (by decide)), ht_at_ne h7 (hne 8 (by decide) (by decide)), fun a ha => ?_, h9, h10, h11, h12⟩
  obtain ⟨q1, q2, q3, q4⟩ := h8 a ha
  obtain ⟨t1, t2, t3, t4⟩ := h11.2 a ha
  have tx := h11.1 0 (by decide)
  exact ⟨ht_at_ne q1 (ht_tne t1 tx (fun z => by cases z)), ht_at_ne q2 (ht_tne t2 tx (fun z => by cases z)), ht_at_ne q3 (ht_tne t3 tx (fun z => by cases z)), fun v hv => ht_at_ne (q4 v hv) (ht_tne (t4 v hv) tx (fun z => by cases z))⟩
theorem ht_Rp.dw {dgf : Int32 → ht_K → ht_K → ht_K} {g : ht_G} {w : ht_W} {X : Nat → Nat} {tg : Nat → Nat × Nat} {k : ht_K} {N : ht_N} {A : ht_AA} {F : List Nat} {top : Option Nat} {L : ht_L} {dt dt' : ht_D} {opf : Nat → Option Nat} {sbf lsf enf : Nat → Int64} {ei : Int32} (h : ht_Rp dgf g w X tg k N A F top L dt opf sbf lsf enf ei) : ht_Rp dgf g (ht_dw g w (X 2) (X 3) (X 4) dt') X tg k N A F top L dt' opf sbf lsf enf ei := by
  obtain ⟨h1, h2, h3, h4, h5, h6, h7, h8, h9, h10, h11, h12⟩ := id h
  have hne : ∀ i j, i < 9 → j < 9 → i ≠ j → X i ≠ X j := fun i j hi hj hn => ht_tne (h11.1 i hi) (h11.1 j hj) (fun z => hn (by injection z))
  have hgo : ∀ {i : Nat} {e : va_E}, i < 9 → i ≠ 2 → i ≠ 3 → i ≠ 4 → ht_at w (X i) e → ht_at (ht_dw g w (X 2) (X 3) (X 4) dt') (X i) e := fun hi n2 n3 n4 hh => ht_Dg.ne hh (hne _ _ hi (by decide) n2) (hne _ _ hi (by decide) n3) (hne _ _ hi (by decide) n4)
  refine ⟨hgo (by decide) (by decide) (by decide) (by decide) h1, hgo (by decide) (by decide) (by decide) (by decide) h2, h3.up, hgo (by decide) (by decide) (by decide) (by decide) h4, hgo (by decide) (by decide) (by decide) (by decide) h5, hgo (by decide) (by decide) (by decide) (by decide) h6, hgo (by decide) (by decide) (by decide) (by decide) h7, fun a ha => ?_, h9, h10, h11, h12⟩
  obtain ⟨q1, q2, q3, q4⟩ := h8 a ha
  obtain ⟨t1, t2, t3, t4⟩ := h11.2 a ha
  have g1 : ∀ {b : Nat} {e : va_E} {z : Nat × Nat}, tg b = z → z.1 ≠ 1 → ht_at w b e → ht_at (ht_dw g w (X 2) (X 3) (X 4) dt') b e := fun hb hz hh => ht_Dg.ne hh (ht_tne hb (h11.1 2 (by decide)) (fun y => hz (by rw [y]))) (ht_tne hb (h11.1 3 (by decide)) (fun y => hz (by rw [y]))) (ht_tne hb (h11.1 4 (by decide)) (fun y => hz (by rw [y])))
  exact ⟨g1 t1 (by decide) q1, g1 t2 (by decide) q2, g1 t3 (fun z => by cases z) q3, fun v hv => g1 (t4 v hv) (fun z => by cases z) (q4 v hv)⟩
theorem ht_upl {f : Nat → Int64} {i : Nat} {v : Int64} (h : ∀ j, j < i → f j = v) : ∀ j, j < i + 1 → vp_updL f i v j = v := by
  intro j hj
  unfold vp_updL
  by_cases e : j = i
  · rw [if_pos e]
  · rw [if_neg e]
    exact h j (by omega)
set_option maxHeartbeats 4000000 in
set_option maxRecDepth 100000 in
theorem c_JA_fill (l : Launch) (g : ht_G) (w : ht_W) {a n : Nat} {f : Nat → Int64} (hA : ht_at w a (ht_al g n f)) (hn : n < 2 ^ 31) (vv : Int64) : Met l y_JA_fill ws_JA_fill ({ frames := 0, cells := 0, slots := 0, locals := 0 } : Room) (va_Pc [.ref a, .long vv] (ht_WS g w)) (ht_Qv g (fun u => ∃ f2 : Nat → Int64, (∀ j, j < n → f2 j = vv) ∧ u = ht_up w a (ht_al g n f2))) 0 0 (ht_A g) := by
  refine Met.ofW (cc := b_JA_fill) (maxL := 5) (ret := none) (by decide) rfl ?_
  intro p e s m args below meth c s₁ BB hml hv
  obtain ⟨rfl, HW⟩ := hv
  have HW := ht_I.start HW
  have hx := BB.exec
  have hb := BB.bytes
  have hr := BB.returns
  have hts := atoms_spec (ws := ws_JA_fill) BB.pre
  have htb : ∀ w ∈ bg, w.before _ s = true := fun w h => hts w (List.mem_cons_of_mem _ h)
  have hown : s.vm.findClass R_JA = some m.cls := findClass_of_methodNamed BB.named
  have hlocks := BB.notSynchronized
  have hl := lv_entry ([.ref a, .long vv]) (n := 5) (Nat.le_of_ble_eq_true rfl)
  rw [lg_entry_eq]
  generalize (lg_sl ([.ref a, .long vv]) ++ List.replicate (5 - (lg_sl ([.ref a, .long vv])).length) Slot.unset).toArray = ls at hl ⊢
  have hl : lv_has ls 5 [(0, .ref a), (1, .long vv)] := hl
  have loop : ∀ (r i : Nat), i + r = n → ∀ (f1 : Nat → Int64) (u : ht_W), u = ht_up w a (ht_al g n f1) → (∀ j, j < i → f1 j = vv) → ∀ (H : Heap) (locs : List Loc) (ls : Array Slot) (iv : Int32), iv = nI i → ht_I g s u H locs → lv_has ls 5 [(0, .ref a), (1, .long vv), (3, .int iv), (4, .int (nI n))] → W p l e (headSpec ws_JA_fill ({ frames := 0, cells := 0, slots := 0, locals := 0 } : Room)).room s m ([.ref a, .long vv] : List Value).toArray below meth c H locs 0 0 (MQ below (ht_Qv g (fun u => ∃ f2 : Nat → Int64, (∀ j, j < n → f2 j = vv) ∧ u = ht_up w a (ht_al g n f2))) ([.ref a, .long vv] : List Value).toArray s 0 0 (ht_A g)) (F0 m 6 ls []) := by
    intro r
    induction r with
    | zero =>
      intro i hi f1 u hu hf H locs ls iv eiv HW hl
      refine lv_iload_n hx hb d_JA_fill_6 rfl (lv_at hl 2 rfl) ?_
      refine lv_iload hx hb d_JA_fill_7 (lv_at hl 3 rfl) ?_
      refine lv_icmp_ge (tgt := 22) hx hb d_JA_fill_9 (by decide) (fun c9 => ?_) (fun c9 => ?_)
      · exact ht_vret hx hb hr hlocks HW ⟨f1, fun j hj => hf j (by omega), hu⟩ d_JA_fill_22
      · exact absurd (by rw [eiv, show i = n by omega]; exact Int32.le_refl _) c9
    | succ r ih =>
      intro i hi f1 u hu hf H locs ls iv eiv HW hl
      have hA1 : ht_at u a (ht_al g n f1) := by rw [hu]; exact ht_at_self hA
      refine lv_iload_n hx hb d_JA_fill_6 rfl (lv_at hl 2 rfl) ?_
      refine lv_iload hx hb d_JA_fill_7 (lv_at hl 3 rfl) ?_
      refine lv_icmp_ge (tgt := 22) hx hb d_JA_fill_9 (by decide) (fun c9 => ?_) (fun c9 => ?_)
      · exact absurd (show nI n ≤ nI i by rw [eiv] at c9; exact c9) (nI_ge (by omega) hn)
      · refine lv_aload_n hx hb d_JA_fill_12 rfl (lv_at hl 0 rfl) ?_
        refine lv_iload_n hx hb d_JA_fill_13 rfl (lv_at hl 2 rfl) ?_
        refine lv_lload_n hx hb d_JA_fill_14 rfl (lv_at hl 1 rfl) ?_
        refine ht_last hx hb HW hA1 (by rw [eiv]; exact vp_in_nI (by omega) (by omega)) d_JA_fill_15 (fun H locs HW => ?_)
        rw [eiv, nI_clamp (by omega)] at HW
        obtain ⟨u1, hu1⟩ : ∃ zW : ht_W, zW = ht_up u a (ht_al g n (vp_updL f1 i vv)) := ⟨_, rfl⟩
        have HW : ht_I g s u1 H locs := by rw [hu1]; exact HW
        have hA1 : ht_at u1 a (ht_al g n (vp_updL f1 i vv)) := by rw [hu1]; exact ht_at_self hA1
        obtain ⟨iv2, eiv2⟩ : ∃ zI : Int32, zI = iv + 1 := ⟨_, rfl⟩
        refine lv_iinc (v := iv2) (lv' := [(3, .int iv2), (0, .ref a), (1, .long vv), (4, .int (nI n))]) hx hb d_JA_fill_16 hl (k := 2) rfl (by rw [eiv2]; rfl) (by decide) rfl (fun ls hl => ?_)
        refine lv_goto (tgt := 6) hx hb d_JA_fill_19 (by decide) ?_
        exact ih (i + 1) (by omega) _ u1 (by rw [hu1, hu, ht_up_up]) (ht_upl hf) _ _ _ iv2 (by rw [eiv2, eiv, nI_1]) HW (lv_sub hl [1, 2, 0, 3] rfl)
  refine lv_iconst (v := 0) hx hb d_JA_fill_0 (by decide) ?_
  refine lv_istore_n (lv' := [(3, .int 0), (0, .ref a), (1, .long vv)]) hx hb d_JA_fill_1 rfl hl (by decide) rfl (fun ls hl => ?_)
  refine lv_aload_n hx hb d_JA_fill_2 rfl (lv_at hl 1 rfl) ?_
  refine ht_alen hx hb HW hA d_JA_fill_3 ?_
  refine lv_istore (lv' := [(4, .int (nI n)), (3, .int 0), (0, .ref a), (1, .long vv)]) hx hb d_JA_fill_4 hl (by decide) rfl (fun ls hl => ?_)
  exact loop n 0 (by omega) f w (ht_up_id hA).symm (fun j hj => absurd hj (Nat.not_lt_zero j)) _ _ _ 0 rfl HW (lv_sub hl [2, 3, 1, 0] rfl)
set_option maxHeartbeats 4000000 in
set_option maxRecDepth 100000 in
theorem c_X_keepSibling (l : Launch) (g : ht_G) (w : ht_W) {x kA dg op sb la en : Nat} {top : Option Nat} {cnt ei : Int32} (hX : ht_at w x (.inr (0, [.ref kA, .ref dg, .ref op, va_rf top, .int cnt, .ref sb, .ref la, .ref en, .int ei]))) {f hk : Nat → Int64} {ha : Nat} (hSb : ht_at w sb (ht_al g 1024 f)) (hH : ht_at w ha (ht_al g 4 hk)) (d : Nat) (hd : d < 256) (dv : Int32) (ed : dv = nI d) : Met l y_X_keepSibling ws_X_keepSibling ({ frames := 1, cells := 0, slots := 0, locals := 60 } : Room) (va_Pc [.ref x, .int dv, .ref ha] (ht_WS g w)) (ht_Qv g (fun u => u = ht_up w sb (ht_al g 1024 (va_cpy hk f 0 (d * 4) 4)))) 0 0 (ht_A g) := by
  refine Met.ofW (cc := b_X_keepSibling) (maxL := 3) (ret := none) (by decide) rfl ?_
  intro p e s m args below meth c s₁ BB hml hv
  obtain ⟨rfl, HW⟩ := hv
  have HW := ht_I.start HW
  have hx := BB.exec
  have hb := BB.bytes
  have hr := BB.returns
  have hts := atoms_spec (ws := ws_X_keepSibling) BB.pre
  have htb : ∀ w ∈ bg, w.before _ s = true := fun w h => hts w (List.mem_cons_of_mem _ h)
  have hown : s.vm.findClass R_X = some m.cls := findClass_of_methodNamed BB.named
  have hlocks := BB.notSynchronized
  have hl := lv_entry ([.ref x, .int dv, .ref ha]) (n := 3) (Nat.le_of_ble_eq_true rfl)
  rw [lg_entry_eq]
  generalize (lg_sl ([.ref x, .int dv, .ref ha]) ++ List.replicate (3 - (lg_sl ([.ref x, .int dv, .ref ha])).length) Slot.unset).toArray = ls at hl ⊢
  have hl : lv_has ls 3 [(0, .ref x), (1, .int dv), (2, .ref ha)] := hl
  refine lv_aload_n hx hb d_X_keepSibling_0 rfl (lv_at hl 2 rfl) ?_
  refine lv_iconst (v := 0) hx hb d_X_keepSibling_1 (by decide) ?_
  refine lv_aload_n hx hb d_X_keepSibling_2 rfl (lv_at hl 0 rfl) ?_
  refine ht_get (C := R_X) (T := F_X) (N := 9) (v := .ref sb) hx hb htb i_X hown HW hX rfl 5 (by decide) (htb _ wd_45) (fun _ h9 => h9) rfl d_X_keepSibling_3 ?_
  refine lv_iload_n hx hb d_X_keepSibling_6 rfl (lv_at hl 1 rfl) ?_
  refine lv_iconst (v := 4) hx hb d_X_keepSibling_7 (by decide) ?_
  refine lv_imul hx hb d_X_keepSibling_8 ?_
  refine lv_topi (fun ix eix => ?_)
  have hix : ix = nI (d * 4) := by rw [eix, ed, show (4 : Int32) = nI 4 from rfl, pk_mul]
  refine lv_iconst (v := 4) hx hb d_X_keepSibling_9 (by decide) ?_
  refine ht_cpl hx hb (hml.trans hl.1.symm) hown (htb _ wd_278) (htb _ wd_233) (htb _ wd_232) (htb _ wd_9) HW hH hSb (sp := 0) (dp := ix) (n := 4) (by decide) (by rw [hix]; exact nI_pos (by omega)) (by decide) (by decide) (by rw [hix, nI_clamp (by omega)]; show d * 4 + 4 ≤ 1024; omega) (Nat.le_of_ble_eq_true rfl) (by decide +kernel) d_X_keepSibling_10 (fun H locs HW => ?_)
  rw [hix, nI_clamp (by omega)] at HW
  exact ht_vret hx hb hr hlocks HW rfl d_X_keepSibling_13
set_option maxHeartbeats 4000000 in
set_option maxRecDepth 100000 in
theorem c_X_keepEnd (l : Launch) (g : ht_G) (w : ht_W) {x kA dg op sb la en : Nat} {top : Option Nat} {cnt ei : Int32} (hX : ht_at w x (.inr (0, [.ref kA, .ref dg, .ref op, va_rf top, .int cnt, .ref sb, .ref la, .ref en, .int ei]))) {f fk fv : Nat → Int64} {b ka ha va : Nat} {lv fr : Int32} (hEn : ht_at w en (ht_al g 8 f)) (hB : ht_at w b (.inr (2, [.ref ka, .int lv, .ref ha, .int fr, .ref va]))) (hKa : ht_at w ka (ht_al g 4 fk)) (hVa : ht_at w va (ht_al g 4 fv)) (hne : va ≠ en) : Met l y_X_keepEnd ws_X_keepEnd ({ frames := 1, cells := 0, slots := 0, locals := 60 } : Room) (va_Pc [.ref x, .ref b] (ht_WS g w)) (ht_Qv g (fun u => u = ht_up w en (ht_al g 8 (va_cpy fv (va_cpy fk f 0 0 4) 0 4 4)))) 0 0 (ht_A g) := by
  refine Met.ofW (cc := b_X_keepEnd) (maxL := 2) (ret := none) (by decide) rfl ?_
  intro p e s m args below meth c s₁ BB hml hv
  obtain ⟨rfl, HW⟩ := hv
  have HW := ht_I.start HW
  have hx := BB.exec
  have hb := BB.bytes
  have hr := BB.returns
  have hts := atoms_spec (ws := ws_X_keepEnd) BB.pre
  have htb : ∀ w ∈ bg, w.before _ s = true := fun w h => hts w (List.mem_cons_of_mem _ h)
  have hown : s.vm.findClass R_X = some m.cls := findClass_of_methodNamed BB.named
  have hlocks := BB.notSynchronized
  have hl := lv_entry ([.ref x, .ref b]) (n := 2) (Nat.le_of_ble_eq_true rfl)
  rw [lg_entry_eq]
  generalize (lg_sl ([.ref x, .ref b]) ++ List.replicate (2 - (lg_sl ([.ref x, .ref b])).length) Slot.unset).toArray = ls at hl ⊢
  have hl : lv_has ls 2 [(0, .ref x), (1, .ref b)] := hl
  refine lv_aload_n hx hb d_X_keepEnd_0 rfl (lv_at hl 1 rfl) ?_
  refine ht_get (C := R_L) (T := F_L) (N := 5) (v := .ref ka) hx hb htb i_L hown HW hB rfl 0 (by decide) (htb _ wd_128) (fun x h9 => u_same (htb _ wd_129) x h9) rfl d_X_keepEnd_1 ?_
  refine lv_iconst (v := 0) hx hb d_X_keepEnd_4 (by decide) ?_
  refine lv_aload_n hx hb d_X_keepEnd_5 rfl (lv_at hl 0 rfl) ?_
  refine ht_get (C := R_X) (T := F_X) (N := 9) (v := .ref en) hx hb htb i_X hown HW hX rfl 7 (by decide) (htb _ wd_47) (fun _ h9 => h9) rfl d_X_keepEnd_6 ?_
  refine lv_iconst (v := 0) hx hb d_X_keepEnd_9 (by decide) ?_
  refine lv_iconst (v := 4) hx hb d_X_keepEnd_10 (by decide) ?_
  refine ht_cpl hx hb (hml.trans hl.1.symm) hown (htb _ wd_278) (htb _ wd_233) (htb _ wd_232) (htb _ wd_9) HW hKa hEn (sp := 0) (dp := 0) (n := 4) (by decide) (by decide) (by decide) (by decide) (by decide) (Nat.le_of_ble_eq_true rfl) (by decide +kernel) d_X_keepEnd_11 (fun H locs HW => ?_)
  have n_x_en : x ≠ en := (ht_ne hX hEn (fun z => by cases z))
  have n_b_en : b ≠ en := (ht_ne hB hEn (fun z => by cases z))
  obtain ⟨u1, hu1⟩ : ∃ zW : ht_W, zW = ht_up w en (ht_al g 8 (va_cpy fk f 0 0 4)) := ⟨_, rfl⟩
  have HW : ht_I g s u1 H locs := by rw [hu1]; exact HW
  have hX : ht_at u1 x (.inr (0, [.ref kA, .ref dg, .ref op, va_rf top, .int cnt, .ref sb, .ref la, .ref en, .int ei]) : va_E) := by rw [hu1]; exact ht_at_ne hX n_x_en
  have hB : ht_at u1 b (.inr (2, [.ref ka, .int lv, .ref ha, .int fr, .ref va]) : va_E) := by rw [hu1]; exact ht_at_ne hB n_b_en
  have hEn : ht_at u1 en (ht_al g 8 (va_cpy fk f 0 0 4)) := by rw [hu1]; exact ht_at_self hEn
  have hVa : ht_at u1 va (ht_al g 4 fv) := by rw [hu1]; exact ht_at_ne hVa hne
  refine lv_aload_n hx hb d_X_keepEnd_14 rfl (lv_at hl 1 rfl) ?_
  refine ht_get (C := R_L) (T := F_L) (N := 5) (v := .ref va) hx hb htb i_L hown HW hB rfl 4 (by decide) (htb _ wd_126) (fun _ h9 => h9) rfl d_X_keepEnd_15 ?_
  refine lv_iconst (v := 0) hx hb d_X_keepEnd_18 (by decide) ?_
  refine lv_aload_n hx hb d_X_keepEnd_19 rfl (lv_at hl 0 rfl) ?_
  refine ht_get (C := R_X) (T := F_X) (N := 9) (v := .ref en) hx hb htb i_X hown HW hX rfl 7 (by decide) (htb _ wd_47) (fun _ h9 => h9) rfl d_X_keepEnd_20 ?_
  refine lv_iconst (v := 4) hx hb d_X_keepEnd_23 (by decide) ?_
  refine lv_iconst (v := 4) hx hb d_X_keepEnd_24 (by decide) ?_
  refine ht_cpl hx hb (hml.trans hl.1.symm) hown (htb _ wd_278) (htb _ wd_233) (htb _ wd_232) (htb _ wd_9) HW hVa hEn (sp := 0) (dp := 4) (n := 4) (by decide) (by decide) (by decide) (by decide) (by decide) (Nat.le_of_ble_eq_true rfl) (by decide +kernel) d_X_keepEnd_25 (fun H locs HW => ?_)
  exact ht_vret hx hb hr hlocks HW (by rw [hu1, ht_up_up]; rfl) d_X_keepEnd_28
theorem ht_T.U_top {N : ht_N} {F : List Nat} {t : Nat} {l : ht_L} (h : ht_T N F (some t) l) : ht_U N l t = l := by
  unfold ht_U
  rw [List.filter_eq_self]
  exact fun q hq => decide_eq_true ((h.2.2.1.1 t rfl).2 q hq)
set_option maxHeartbeats 4000000 in
set_option maxRecDepth 100000 in
theorem c_X_root (l : Launch) (g : ht_G) (w : ht_W) {X : Nat → Nat} {tg : Nat → Nat × Nat} {k : ht_K} {N : ht_N} {A : ht_AA} {F : List Nat} {top : Option Nat} {L : ht_L} {dt : ht_D} {opf : Nat → Option Nat} {sbf lsf enf : Nat → Int64} {ei : Int32} (hR : ht_Rp ht_dgf g w X tg k N A F top L dt opf sbf lsf enf ei) (hcap : L.length ≤ 512) (i : Int32) : Met l y_X_root ws_X_root ({ frames := 7, cells := 0, slots := 0, locals := 220 } : Room) (va_Pc [.ref (X 0), .int i] (ht_WS g w)) (ht_Ql g (fun r u => ∃ (N' : ht_N) (dt' : ht_D) (opf' : Nat → Option Nat), ht_Rp ht_dgf g u X tg k N' A F top L dt' opf' sbf lsf enf ei ∧ ht_fr (fun b => (tg b).1 ≠ 0) w u ∧ ((∃ j, j < 4 ∧ i = nI j ∧ r = ht_kf (ht_h ht_dgf 256 L) j) ∨ (¬ ht_isn i ∧ r = 0)))) 0 0 (ht_A g) := by
  refine Met.ofW (cc := b_X_root) (maxL := 2) (ret := (some .long)) (by decide) rfl ?_
  intro p e s m args below meth c s₁ BB hml hv
  obtain ⟨rfl, HW⟩ := hv
  have HW := ht_I.start HW
  have hx := BB.exec
  have hb := BB.bytes
  have hr := BB.returns
  have hts := atoms_spec (ws := ws_X_root) BB.pre
  have htb : ∀ w ∈ bg, w.before _ s = true := fun w h => hts w (List.mem_cons_of_mem _ h)
  have hown : s.vm.findClass R_X = some m.cls := findClass_of_methodNamed BB.named
  have hlocks := BB.notSynchronized
  have hl := lv_entry ([.ref (X 0), .int i]) (n := 2) (Nat.le_of_ble_eq_true rfl)
  rw [lg_entry_eq]
  generalize (lg_sl ([.ref (X 0), .int i]) ++ List.replicate (2 - (lg_sl ([.ref (X 0), .int i])).length) Slot.unset).toArray = ls at hl ⊢
  have hl : lv_has ls 2 [(0, .ref (X 0)), (1, .int i)] := hl
  obtain ⟨hX, hK, hDg, hOp, hSb, hLs, hEn, hN, hT, hF, htg, hlen⟩ := id hR
  unfold ht_xo at hX
  cases top with
  | none =>
    refine lv_aload_n hx hb d_X_root_0 rfl (lv_at hl 0 rfl) ?_
    refine ht_get (C := R_X) (T := F_X) (N := 9) (v := .null) hx hb htb i_X hown HW hX rfl 3 (by decide) (htb _ wd_43) (fun _ h9 => h9) rfl d_X_root_1 ?_
    refine lv_ifnullN (tgt := 14) hx hb d_X_root_4 (by decide) ?_
    refine lv_lconst (v := 0) hx hb d_X_root_14 (by decide) ?_
    exact ht_lret hx hb hr hlocks HW ⟨N, dt, opf, hR, ht_fr.rf, (ht_isn_or i).elim (fun ⟨j, hj, ej⟩ => Or.inl ⟨j, hj, ej, by rw [(hT.2.2.1.2 rfl).2, ht_h_nil]; rcases (show j = 0 ∨ j = 1 ∨ j = 2 ∨ j = 3 by omega) with rfl | rfl | rfl | rfl <;> rfl⟩) (fun q => Or.inr ⟨q, rfl⟩)⟩ d_X_root_15
  | some t =>
    refine lv_aload_n hx hb d_X_root_0 rfl (lv_at hl 0 rfl) ?_
    refine ht_get (C := R_X) (T := F_X) (N := 9) (v := .ref t) hx hb htb i_X hown HW hX rfl 3 (by decide) (htb _ wd_43) (fun _ h9 => h9) rfl d_X_root_1 ?_
    refine lv_ifnull hx hb d_X_root_4 ?_
    refine lv_iload_n hx hb d_X_root_7 rfl (lv_at hl 1 rfl) ?_
    refine ht_ci HW (va_runS (own := R_X) (As := [.int i]) (rest := []) ⟨hx, hb, hml, hown, htb⟩ (c_X_isNumber l g w i) (va_cwS 1 htb (ht_gs wd_198 wd_199 wd_1 g_X_isNumber) rfl rfl rfl (by decide +kernel) ⟨Nat.le_of_ble_eq_true rfl, Nat.le_of_ble_eq_true rfl⟩) (HW.preS _) rfl rfl hl.1 rfl (lv_room (Nat.le_of_ble_eq_true rfl)) d_X_root_8 ⟨Nat.le_of_ble_eq_true rfl, Nat.le_of_ble_eq_true rfl⟩) (fun q2 u1 H locs pi HW => ?_)
    obtain ⟨pi, eww⟩ := pi
    subst eww
    rcases ht_isn_or i with hisn | hisn
    · have er := pi.1 hisn
      subst er
      refine W.eq (g2 := F0 _ 11 ls [.int 1]) rfl ?_
      obtain ⟨j, hj, ej⟩ := id hisn
      refine lv_if_ne (tgt := 16) hx hb d_X_root_11 (by decide) (fun c11 => ?_) (fun c11 => ?_)
      · refine lv_aload_n hx hb d_X_root_16 rfl (lv_at hl 0 rfl) ?_
        refine ht_cv HW (va_runV (own := R_X) (C := R_X) (As := []) (rest := []) ⟨hx, hb, hml, hown, htb⟩ (c_X_refresh l g w hR hcap) (cwV 0 htb (ht_gv wd_209 wd_211 sl_5 wd_1 g_X_refresh) rfl rfl rfl (by decide +kernel) ⟨Nat.le_of_ble_eq_true rfl, Nat.le_of_ble_eq_true rfl⟩) (HW.preV hX rfl _) rfl rfl hl.1 rfl (lv_room (Nat.le_of_ble_eq_true rfl)) d_X_root_17 ⟨Nat.le_of_ble_eq_true rfl, Nat.le_of_ble_eq_true rfl⟩) (fun u3 H locs pr HW => ?_)
        obtain ⟨N', dt', opf', hR', hfr', hfre, -⟩ := pr
        obtain ⟨hX', -, -, -, -, -, -, hN', hT', hF', -⟩ := id hR'
        unfold ht_xo at hX'
        have htF := (hT'.2.2.1.1 t rfl).1
        have htc := (hN' t htF).1
        have hth := (hN' t htF).2.2.1
        refine lv_aload_n hx hb d_X_root_20 rfl (lv_at hl 0 rfl) ?_
        refine ht_get (C := R_X) (T := F_X) (N := 9) (v := .ref t) hx hb htb i_X hown HW hX' rfl 3 (by decide) (htb _ wd_43) (fun _ h9 => h9) rfl d_X_root_21 ?_
        refine ht_ngt hx hb htb hown HW htc 2 (by decide) (htb _ wd_137) (fun _ h9 => h9) (v := .ref (A t).2.1) rfl d_X_root_24 ?_
        refine lv_iload_n hx hb d_X_root_27 rfl (lv_at hl 1 rfl) ?_
        refine ht_lald hx hb HW hth (by rw [ej]; exact vp_in_nI (by omega) (by omega)) d_X_root_28 ?_
        refine lv_topl (fun vv evv => ?_)
        have evv : vv = (ht_kf (ht_rh (N' t))) j := by rw [evv, ej, nI_clamp (by omega)]
        exact ht_lret hx hb hr hlocks HW ⟨N', dt', opf', hR', hfr', Or.inl ⟨j, hj, ej, by rw [evv, hF'.1 t rfl (hfre t rfl), hT'.U_top]⟩⟩ d_X_root_29
      · exact absurd c11 (by decide)
    · have er := pi.2 hisn
      subst er
      refine W.eq (g2 := F0 _ 11 ls [.int 0]) rfl ?_
      refine lv_if_ne (tgt := 16) hx hb d_X_root_11 (by decide) (fun c11 => ?_) (fun c11 => ?_)
      · exact absurd rfl c11
      · refine lv_lconst (v := 0) hx hb d_X_root_14 (by decide) ?_
        exact ht_lret hx hb hr hlocks HW ⟨N, dt, opf, hR, ht_fr.rf, Or.inr ⟨hisn, rfl⟩⟩ d_X_root_15
def ht_db (x : Int64) (n : Nat) : Nat → Int32 := fun i => ht_by x (n - 1 - i % n)
theorem ht_S8.db {x : Int64} {n t : Nat} {d : ht_D} (h : ht_S8 (ht_db x n) (n * t) d) (hn : n ≤ 8) (ht : t ≤ 500) : ht_S8 (ht_db x n) (n * (t + 1)) (ht_tl d x n) := by
  have hb : n * t ≤ 8 * 500 := Nat.mul_le_mul hn ht
  rw [Nat.mul_succ]
  refine ht_S8.tl n (n * t) d h (by omega) (fun i hi => ?_)
  unfold ht_db
  rw [Nat.mul_add_mod, Nat.mod_eq_of_lt hi]
theorem ht_rngG {x : Int32} {n : Nat} (hn : n + 1 < 2 ^ 31) (h0 : ¬ x < 0) (h1 : ¬ nI n < x) : ∃ a : Nat, a ≤ n ∧ x = nI a := by
  obtain ⟨j, hj, rfl⟩ := nI_of h0
  exact ⟨j, Nat.not_lt.mp (fun q => h1 (nI_lt q hj)), rfl⟩
theorem ht_rngG0 {x : Int32} {n : Nat} (hn : n + 1 < 2 ^ 31) (h0 : x < 0) : ¬ ∃ a : Nat, a ≤ n ∧ x = nI a := fun ⟨a, ha, e⟩ => nI_pos (n := a) (by omega) (by rw [← e]; exact h0)
theorem ht_rngG1 {x : Int32} {n : Nat} (hn : n + 1 < 2 ^ 31) (h0 : nI n < x) : ¬ ∃ a : Nat, a ≤ n ∧ x = nI a := fun ⟨a, ha, e⟩ => Int32.not_le.mpr (by rw [e] at h0; exact h0) (nI_le ha (by omega))
set_option maxHeartbeats 4000000 in
set_option maxRecDepth 100000 in
theorem c_X_digest (l : Launch) (g : ht_G) (w : ht_W) {dgf : Int32 → ht_K → ht_K → ht_K} {X : Nat → Nat} {tg : Nat → Nat × Nat} {k : ht_K} {N : ht_N} {A : ht_AA} {F : List Nat} {top : Option Nat} {L : ht_L} {dt : ht_D} {opf : Nat → Option Nat} {sbf lsf enf : Nat → Int64} {ei : Int32} (hR : ht_Rp dgf g w X tg k N A F top L dt opf sbf lsf enf ei) (bs : Int64) (bn tm i : Int32) : Met l y_X_digest ws_X_digest ({ frames := 4, cells := 0, slots := 0, locals := 130 } : Room) (va_Pc [.ref (X 0), .long bs, .int bn, .int tm, .int i] (ht_WS g w)) (ht_Ql g (fun r u => ∃ (dt' : ht_D), ht_Rp dgf g u X tg k N A F top L dt' opf sbf lsf enf ei ∧ ht_fr (fun b => (tg b).1 ≠ 0) w u ∧ ((∃ n0 t0 j, n0 ≤ 8 ∧ t0 ≤ 500 ∧ j < 4 ∧ bn = nI n0 ∧ tm = nI t0 ∧ i = nI j ∧ r = ht_nu (ht_sw (ht_pad (ht_db bs n0) (n0 * t0)) ((n0 * t0 + 72) / 64)) j) ∨ (((¬ ∃ n0 : Nat, n0 ≤ 8 ∧ bn = nI n0) ∨ (¬ ∃ t0 : Nat, t0 ≤ 500 ∧ tm = nI t0) ∨ ¬ ht_isn i) ∧ r = 0)))) 0 0 (ht_A g) := by
  refine Met.ofW (cc := b_X_digest) (maxL := 7) (ret := (some .long)) (by decide) rfl ?_
  intro p e s m args below meth c s₁ BB hml hv
  obtain ⟨rfl, HW⟩ := hv
  have HW := ht_I.start HW
  have hx := BB.exec
  have hb := BB.bytes
  have hr := BB.returns
  have hts := atoms_spec (ws := ws_X_digest) BB.pre
  have htb : ∀ w ∈ bg, w.before _ s = true := fun w h => hts w (List.mem_cons_of_mem _ h)
  have hown : s.vm.findClass R_X = some m.cls := findClass_of_methodNamed BB.named
  have hlocks := BB.notSynchronized
  have hl := lv_entry ([.ref (X 0), .long bs, .int bn, .int tm, .int i]) (n := 7) (Nat.le_of_ble_eq_true rfl)
  rw [lg_entry_eq]
  generalize (lg_sl ([.ref (X 0), .long bs, .int bn, .int tm, .int i]) ++ List.replicate (7 - (lg_sl ([.ref (X 0), .long bs, .int bn, .int tm, .int i])).length) Slot.unset).toArray = ls at hl ⊢
  have hl : lv_has ls 7 [(0, .ref (X 0)), (1, .long bs), (3, .int bn), (4, .int tm), (5, .int i)] := hl
  obtain ⟨hX, hK, hDg, hOp, hSb, hLs, hEn, hN, hT, hF, htg, hlen⟩ := id hR
  unfold ht_xo at hX
  obtain ⟨hDu, -, -⟩ := id hDg
  have loop : ∀ (n0 t0 j : Nat), n0 ≤ 8 → t0 ≤ 500 → j < 4 → bn = nI n0 → tm = nI t0 → i = nI j → ∀ (r z : Nat), z + r = t0 → ∀ (d1 : ht_D) (u : ht_W), u = ht_dw g w (X 2) (X 3) (X 4) d1 → ht_S8 (ht_db bs n0) (n0 * z) d1 → ∀ (H : Heap) (locs : List Loc) (ls : Array Slot) (iv : Int32), iv = nI z → ht_I g s u H locs → lv_has ls 7 [(0, .ref (X 0)), (1, .long bs), (3, .int bn), (4, .int tm), (5, .int i), (6, .int iv)] → W p l e (headSpec ws_X_digest ({ frames := 4, cells := 0, slots := 0, locals := 130 } : Room)).room s m ([.ref (X 0), .long bs, .int bn, .int tm, .int i] : List Value).toArray below meth c H locs 0 0 (MQ below (ht_Ql g (fun r u => ∃ (dt' : ht_D), ht_Rp dgf g u X tg k N A F top L dt' opf sbf lsf enf ei ∧ ht_fr (fun b => (tg b).1 ≠ 0) w u ∧ ((∃ n0 t0 j, n0 ≤ 8 ∧ t0 ≤ 500 ∧ j < 4 ∧ bn = nI n0 ∧ tm = nI t0 ∧ i = nI j ∧ r = ht_nu (ht_sw (ht_pad (ht_db bs n0) (n0 * t0)) ((n0 * t0 + 72) / 64)) j) ∨ (((¬ ∃ n0 : Nat, n0 ≤ 8 ∧ bn = nI n0) ∨ (¬ ∃ t0 : Nat, t0 ≤ 500 ∧ tm = nI t0) ∨ ¬ ht_isn i) ∧ r = 0)))) ([.ref (X 0), .long bs, .int bn, .int tm, .int i] : List Value).toArray s 0 0 (ht_A g)) (F0 m 43 ls []) := by
      intro n0 t0 j hn0 ht0 hj en0 et0 ej r
      induction r with
      | zero =>
        intro z hz d1 u hu hS H locs ls iv eiv HW hl
        have hRu : ht_Rp dgf g u X tg k N A F top L d1 opf sbf lsf enf ei := by rw [hu]; exact hR.dw
        obtain ⟨hX, -, hDgu, -⟩ := id hRu
        unfold ht_xo at hX
        obtain ⟨hDu, -, -⟩ := id hDgu
        refine lv_iload hx hb d_X_digest_43 (lv_at hl 5 rfl) ?_
        refine lv_iload hx hb d_X_digest_45 (lv_at hl 3 rfl) ?_
        refine lv_icmp_ge (tgt := 65) hx hb d_X_digest_47 (by decide) (fun c47 => ?_) (fun c47 => ?_)
        · refine lv_aload_n hx hb d_X_digest_65 rfl (lv_at hl 0 rfl) ?_
          refine ht_get (C := R_X) (T := F_X) (N := 9) (v := .ref (X 2)) hx hb htb i_X hown HW hX rfl 1 (by decide) (htb _ wd_41) (fun _ h9 => h9) rfl d_X_digest_66 ?_
          refine ht_cv HW (va_runV (own := R_X) (C := R_D) (As := []) (rest := []) ⟨hx, hb, hml, hown, htb⟩ (c_D_finish l g u hDgu) (cwV 0 htb (ht_gv wd_301 wd_256 wd_257 wd_2 g_D_finish) rfl rfl rfl (by decide +kernel) ⟨Nat.le_of_ble_eq_true rfl, Nat.le_of_ble_eq_true rfl⟩) (HW.preV hDu rfl _) rfl rfl hl.1 rfl (lv_room (Nat.le_of_ble_eq_true rfl)) d_X_digest_69 ⟨Nat.le_of_ble_eq_true rfl, Nat.le_of_ble_eq_true rfl⟩) (fun u1 H locs pf HW => ?_)
          have eu2 : u1 = ht_dw g w (X 2) (X 3) (X 4) (ht_fi d1) := by rw [pf, hu, hDg.dw]
          have hRu2 : ht_Rp dgf g u1 X tg k N A F top L (ht_fi d1) opf sbf lsf enf ei := by rw [eu2]; exact hR.dw
          obtain ⟨hX, -, hDg2, -⟩ := id hRu2
          unfold ht_xo at hX
          obtain ⟨hDu, -, -⟩ := id hDg2
          refine lv_aload_n hx hb d_X_digest_72 rfl (lv_at hl 0 rfl) ?_
          refine ht_get (C := R_X) (T := F_X) (N := 9) (v := .ref (X 2)) hx hb htb i_X hown HW hX rfl 1 (by decide) (htb _ wd_41) (fun _ h9 => h9) rfl d_X_digest_73 ?_
          refine lv_iload hx hb d_X_digest_76 (lv_at hl 4 rfl) ?_
          refine ht_cl HW (va_runV (own := R_X) (C := R_D) (As := [.int i]) (rest := []) ⟨hx, hb, hml, hown, htb⟩ (c_D_number l g u1 hDg2 j hj i ej) (cwV 1 htb (ht_gv wd_302 wd_261 wd_262 wd_2 g_D_number) rfl rfl rfl (by decide +kernel) ⟨Nat.le_of_ble_eq_true rfl, Nat.le_of_ble_eq_true rfl⟩) (HW.preV hDu rfl _) rfl rfl hl.1 rfl (lv_room (Nat.le_of_ble_eq_true rfl)) d_X_digest_78 ⟨Nat.le_of_ble_eq_true rfl, Nat.le_of_ble_eq_true rfl⟩) (fun rr u2 H locs pu2 HW => ?_)
          obtain ⟨err, eu2⟩ := pu2
          subst eu2
          exact ht_lret hx hb hr hlocks HW ⟨ht_fi d1, hRu2, by rw [eu2]; exact ht_frp (by rw [htg.1 2 (by decide)]; decide) (by rw [htg.1 3 (by decide)]; decide) (by rw [htg.1 4 (by decide)]; decide), Or.inl ⟨n0, t0, j, hn0, ht0, hj, en0, et0, ej, by rw [err, ht_fi_sw hS (by have : n0 * z ≤ 8 * 500 := Nat.mul_le_mul hn0 (by omega); omega), show z = t0 by omega]⟩⟩ d_X_digest_81
        · exact absurd (by rw [et0, eiv, show z = t0 by omega]; exact Int32.le_refl _) c47
      | succ r ih =>
        intro z hz d1 u hu hS H locs ls iv eiv HW hl
        have hRu : ht_Rp dgf g u X tg k N A F top L d1 opf sbf lsf enf ei := by rw [hu]; exact hR.dw
        obtain ⟨hX, -, hDgu, -⟩ := id hRu
        unfold ht_xo at hX
        obtain ⟨hDu, -, -⟩ := id hDgu
        refine lv_iload hx hb d_X_digest_43 (lv_at hl 5 rfl) ?_
        refine lv_iload hx hb d_X_digest_45 (lv_at hl 3 rfl) ?_
        refine lv_icmp_ge (tgt := 65) hx hb d_X_digest_47 (by decide) (fun c47 => ?_) (fun c47 => ?_)
        · exact absurd (show nI t0 ≤ nI z by rw [et0, eiv] at c47; exact c47) (nI_ge (by omega) (by omega))
        · refine lv_aload_n hx hb d_X_digest_50 rfl (lv_at hl 0 rfl) ?_
          refine ht_get (C := R_X) (T := F_X) (N := 9) (v := .ref (X 2)) hx hb htb i_X hown HW hX rfl 1 (by decide) (htb _ wd_41) (fun _ h9 => h9) rfl d_X_digest_51 ?_
          refine lv_lload_n hx hb d_X_digest_54 rfl (lv_at hl 1 rfl) ?_
          refine lv_iload_n hx hb d_X_digest_55 rfl (lv_at hl 2 rfl) ?_
          refine ht_cv HW (va_runV (own := R_X) (C := R_D) (As := [.long bs, .int bn]) (rest := []) ⟨hx, hb, hml, hown, htb⟩ (c_D_takeLowest l g u hDgu bs n0 hn0 bn en0) (cwV 2 htb (ht_gv wd_300 wd_252 wd_253 wd_2 g_D_takeLowest) rfl rfl rfl (by decide +kernel) ⟨Nat.le_of_ble_eq_true rfl, Nat.le_of_ble_eq_true rfl⟩) (HW.preV hDu rfl _) rfl rfl hl.1 rfl (lv_room (Nat.le_of_ble_eq_true rfl)) d_X_digest_56 ⟨Nat.le_of_ble_eq_true rfl, Nat.le_of_ble_eq_true rfl⟩) (fun u1 H locs pt HW => ?_)
          obtain ⟨iv2, eiv2⟩ : ∃ zI : Int32, zI = iv + 1 := ⟨_, rfl⟩
          refine lv_iinc (v := iv2) (lv' := [(6, .int iv2), (0, .ref (X 0)), (1, .long bs), (3, .int bn), (4, .int tm), (5, .int i)]) hx hb d_X_digest_59 hl (k := 5) rfl (by rw [eiv2]; rfl) (by decide) rfl (fun ls hl => ?_)
          refine lv_goto (tgt := 43) hx hb d_X_digest_62 (by decide) ?_
          exact ih (z + 1) (by omega) _ u1 (by rw [pt, hu, hDg.dw]) (hS.db hn0 (by omega)) _ _ _ iv2 (by rw [eiv2, eiv, nI_1]) HW (lv_sub hl [1, 2, 3, 4, 5, 0] rfl)
  refine lv_iload_n hx hb d_X_digest_0 rfl (lv_at hl 2 rfl) ?_
  refine lv_if_lt (tgt := 31) hx hb d_X_digest_1 (by decide) (fun c1 => ?_) (fun c1 => ?_)
  · have hout : (¬ ∃ n0 : Nat, n0 ≤ 8 ∧ bn = nI n0) ∨ (¬ ∃ t0 : Nat, t0 ≤ 500 ∧ tm = nI t0) ∨ ¬ ht_isn i := Or.inl (ht_rngG0 (n := 8) (by decide) c1)
    refine lv_lconst (v := 0) hx hb d_X_digest_31 (by decide) ?_
    exact ht_lret hx hb hr hlocks HW ⟨dt, hR, ht_fr.rf, Or.inr ⟨hout, rfl⟩⟩ d_X_digest_32
  · refine lv_iload_n hx hb d_X_digest_4 rfl (lv_at hl 2 rfl) ?_
    refine lv_bipush (v := 8) hx hb d_X_digest_5 (by decide) ?_
    refine lv_icmp_gt (tgt := 31) hx hb d_X_digest_7 (by decide) (fun c7 => ?_) (fun c7 => ?_)
    · have hout : (¬ ∃ n0 : Nat, n0 ≤ 8 ∧ bn = nI n0) ∨ (¬ ∃ t0 : Nat, t0 ≤ 500 ∧ tm = nI t0) ∨ ¬ ht_isn i := Or.inl (ht_rngG1 (n := 8) (by decide) c7)
      refine lv_lconst (v := 0) hx hb d_X_digest_31 (by decide) ?_
      exact ht_lret hx hb hr hlocks HW ⟨dt, hR, ht_fr.rf, Or.inr ⟨hout, rfl⟩⟩ d_X_digest_32
    · obtain ⟨n0, hn0, en0⟩ := ht_rngG (n := 8) (by decide) c1 c7
      refine lv_iload hx hb d_X_digest_10 (lv_at hl 3 rfl) ?_
      refine lv_if_lt (tgt := 31) hx hb d_X_digest_12 (by decide) (fun c12 => ?_) (fun c12 => ?_)
      · have hout : (¬ ∃ n0 : Nat, n0 ≤ 8 ∧ bn = nI n0) ∨ (¬ ∃ t0 : Nat, t0 ≤ 500 ∧ tm = nI t0) ∨ ¬ ht_isn i := Or.inr (Or.inl (ht_rngG0 (n := 500) (by decide) c12))
        refine lv_lconst (v := 0) hx hb d_X_digest_31 (by decide) ?_
        exact ht_lret hx hb hr hlocks HW ⟨dt, hR, ht_fr.rf, Or.inr ⟨hout, rfl⟩⟩ d_X_digest_32
      · refine lv_iload hx hb d_X_digest_15 (lv_at hl 3 rfl) ?_
        refine lv_sipush (v := 500) hx hb d_X_digest_17 (by decide) ?_
        refine lv_icmp_gt (tgt := 31) hx hb d_X_digest_20 (by decide) (fun c20 => ?_) (fun c20 => ?_)
        · have hout : (¬ ∃ n0 : Nat, n0 ≤ 8 ∧ bn = nI n0) ∨ (¬ ∃ t0 : Nat, t0 ≤ 500 ∧ tm = nI t0) ∨ ¬ ht_isn i := Or.inr (Or.inl (ht_rngG1 (n := 500) (by decide) c20))
          refine lv_lconst (v := 0) hx hb d_X_digest_31 (by decide) ?_
          exact ht_lret hx hb hr hlocks HW ⟨dt, hR, ht_fr.rf, Or.inr ⟨hout, rfl⟩⟩ d_X_digest_32
        · obtain ⟨t0, ht0, et0⟩ := ht_rngG (n := 500) (by decide) c12 c20
          refine lv_iload hx hb d_X_digest_23 (lv_at hl 4 rfl) ?_
          refine ht_ci HW (va_runS (own := R_X) (As := [.int i]) (rest := []) ⟨hx, hb, hml, hown, htb⟩ (c_X_isNumber l g w i) (va_cwS 1 htb (ht_gs wd_198 wd_199 wd_1 g_X_isNumber) rfl rfl rfl (by decide +kernel) ⟨Nat.le_of_ble_eq_true rfl, Nat.le_of_ble_eq_true rfl⟩) (HW.preS _) rfl rfl hl.1 rfl (lv_room (Nat.le_of_ble_eq_true rfl)) d_X_digest_25 ⟨Nat.le_of_ble_eq_true rfl, Nat.le_of_ble_eq_true rfl⟩) (fun q2 u1 H locs pi HW => ?_)
          obtain ⟨pi, eww⟩ := pi
          subst eww
          rcases ht_isn_or i with hisn | hisn
          · have er := pi.1 hisn
            subst er
            refine W.eq (g2 := F0 _ 28 ls [.int 1]) rfl ?_
            obtain ⟨j, hj, ej⟩ := id hisn
            refine lv_if_ne (tgt := 33) hx hb d_X_digest_28 (by decide) (fun c28 => ?_) (fun c28 => ?_)
            · refine lv_aload_n hx hb d_X_digest_33 rfl (lv_at hl 0 rfl) ?_
              refine ht_get (C := R_X) (T := F_X) (N := 9) (v := .ref (X 2)) hx hb htb i_X hown HW hX rfl 1 (by decide) (htb _ wd_41) (fun _ h9 => h9) rfl d_X_digest_34 ?_
              refine ht_cv HW (va_runV (own := R_X) (C := R_D) (As := []) (rest := []) ⟨hx, hb, hml, hown, htb⟩ (c_D_begin l g w hDg) (cwV 0 htb (ht_gv wd_299 wd_226 wd_227 wd_2 g_D_begin) rfl rfl rfl (by decide +kernel) ⟨Nat.le_of_ble_eq_true rfl, Nat.le_of_ble_eq_true rfl⟩) (HW.preV hDu rfl _) rfl rfl hl.1 rfl (lv_room (Nat.le_of_ble_eq_true rfl)) d_X_digest_37 ⟨Nat.le_of_ble_eq_true rfl, Nat.le_of_ble_eq_true rfl⟩) (fun u3 H locs pb HW => ?_)
              refine lv_iconst (v := 0) hx hb d_X_digest_40 (by decide) ?_
              refine lv_istore (lv' := [(6, .int 0), (0, .ref (X 0)), (1, .long bs), (3, .int bn), (4, .int tm), (5, .int i)]) hx hb d_X_digest_41 hl (by decide) rfl (fun ls hl => ?_)
              exact loop n0 t0 j hn0 ht0 hj en0 et0 ej t0 0 (by omega) _ u3 pb (by rw [Nat.mul_zero]; exact ht_S8.start _ _) _ _ _ 0 rfl HW (lv_sub hl [1, 2, 3, 4, 5, 0] rfl)
            · exact absurd c28 (by decide)
          · have er := pi.2 hisn
            subst er
            refine W.eq (g2 := F0 _ 28 ls [.int 0]) rfl ?_
            refine lv_if_ne (tgt := 33) hx hb d_X_digest_28 (by decide) (fun c28 => ?_) (fun c28 => ?_)
            · exact absurd rfl c28
            · refine lv_lconst (v := 0) hx hb d_X_digest_31 (by decide) ?_
              exact ht_lret hx hb hr hlocks HW ⟨dt, hR, ht_fr.rf, Or.inr ⟨Or.inr (Or.inr hisn), rfl⟩⟩ d_X_digest_32
end
section
/-! THE PROOF, as a function of the keys and THE KEY: the class's way to it. -/
def ht_Uk (L : ht_L) (k : ht_K) (d : Nat) : ht_L := L.filter (fun q => decide (d ≤ ht_part k q.1))
def ht_Vk (L : ht_L) (k : ht_K) (d : Nat) : ht_L := L.filter (fun q => decide (ht_part k q.1 = d))
def ht_sbs (L : ht_L) (k : ht_K) (D : Nat) (f : Nat → Int64) : Prop := ∀ j i, j < 256 → i < 4 → f (j * 4 + i) = if j < D then ht_kf (ht_h ht_dgf (255 - j) (ht_Vk L k j)) i else 0
def ht_ens (L : ht_L) (k : ht_K) (D : Nat) (f : Nat → Int64) (ei : Int32) : Prop := (ht_Uk L k D = [] ∧ ei = 0 ∧ ∀ i, i < 8 → f i = 0) ∨ ∃ k' v' : ht_K, ht_Uk L k D = [(k', v')] ∧ ((k' = k ∧ ei = 1) ∨ (k' ≠ k ∧ ei = 2)) ∧ ∀ i, i < 4 → f i = ht_kf k' i ∧ f (4 + i) = ht_kf v' i
def ht_pv (L : ht_L) (k : ht_K) (D : Nat) (sbf enf : Nat → Int64) (ei : Int32) : Prop := D ≤ 256 ∧ (∀ j, j < D → 2 ≤ (ht_Uk L k j).length) ∧ ht_sbs L k D sbf ∧ ht_ens L k D enf ei
theorem ht_kz0 (i : Nat) : ht_kf ht_kz i = 0 := by
  unfold ht_kf ht_kz
  by_cases h0 : i = 0
  · rw [if_pos h0]
  · rw [if_neg h0]
    by_cases h1 : i = 1
    · rw [if_pos h1]
    · rw [if_neg h1]
      by_cases h2 : i = 2
      · rw [if_pos h2]
      · rw [if_neg h2]
def ht_pi (N : ht_N) (F : List Nat) (L : ht_L) (k bk : ht_K) (a lv : Nat) (f : Nat → Int64) : Prop := a ∈ F ∧ lv ≤ ht_rl (N a) ∧ ht_in N a bk ∧ (∀ q ∈ L, lv ≤ ht_part k q.1 ↔ ht_in N a q.1) ∧ (∀ j, j < lv → 2 ≤ (ht_Uk L k j).length) ∧ ht_sbs L k lv f
theorem ht_filter_cg {α : Type} {l : List α} {f g : α → Bool} (h : ∀ x ∈ l, f x = true ↔ g x = true) : l.filter f = l.filter g := List.filter_congr (fun x hx => Bool.eq_iff_iff.mpr (h x hx))
theorem ht_Uk_U {N : ht_N} {L : ht_L} {k : ht_K} {a d : Nat} (h : ∀ q ∈ L, d ≤ ht_part k q.1 ↔ ht_in N a q.1) : ht_Uk L k d = ht_U N L a := ht_filter_cg (fun q hq => by rw [decide_eq_true_iff, decide_eq_true_iff]; exact h q hq)
theorem ht_Vk_U {N : ht_N} {L : ht_L} {k : ht_K} {a d : Nat} (h : ∀ q ∈ L, ht_part k q.1 = d ↔ ht_in N a q.1) : ht_Vk L k d = ht_U N L a := ht_filter_cg (fun q hq => by rw [decide_eq_true_iff, decide_eq_true_iff]; exact h q hq)
theorem ht_Vk_nil {L : ht_L} {k : ht_K} {d : Nat} (h : ∀ q ∈ L, ht_part k q.1 ≠ d) : ht_Vk L k d = [] := List.filter_eq_nil_iff.mpr (fun q hq z => h q hq (of_decide_eq_true z))
theorem ht_Uk_nil {L : ht_L} {k : ht_K} {d : Nat} (h : ∀ q ∈ L, ¬ d ≤ ht_part k q.1) : ht_Uk L k d = [] := List.filter_eq_nil_iff.mpr (fun q hq z => h q hq (of_decide_eq_true z))
theorem ht_pi.start {N : ht_N} {F : List Nat} {L : ht_L} {t : Nat} (hT : ht_T N F (some t) L) {k bk bv : ht_K} (hb : (bk, bv) ∈ L) {f : Nat → Int64} (hf : ∀ j, j < 1024 → f j = 0) : ht_pi N F L k bk t 0 f :=
  ⟨(hT.2.2.1.1 t rfl).1, Nat.zero_le _, (hT.2.2.1.1 t rfl).2 (bk, bv) hb, fun q hq => ⟨fun _ => (hT.2.2.1.1 t rfl).2 q hq, fun _ => Nat.zero_le _⟩, fun j hj => absurd hj (Nat.not_lt_zero j), fun j i hj hi => by
    rw [if_neg (Nat.not_lt_zero j)]
    exact hf _ (by omega)⟩
theorem ht_pi.low {N : ht_N} {F : List Nat} {top : Option Nat} {L : ht_L} {k bk : ht_K} {a lv : Nat} {f : Nat → Int64} (hT : ht_T N F top L) (h : ht_pi N F L k bk a lv f) {d : Nat} (hd : d ≤ ht_rl (N a)) (hP : d ≤ ht_part k bk) {q : ht_K} (hq : ht_in N a q) : d ≤ ht_part k q := by
  have h1 : ht_ag k bk d := ht_ag_le (ht_part_ag k bk) hP
  have h2 : ht_ag bk q d := ht_ag_le (hT.two h.1 h.2.2.1 hq) hd
  exact (ht_ag_part (Nat.le_trans hd (hT.lv h.1))).mp (ht_ag_trans h1 h2)
theorem ht_bb {x y : Bool} (h : x ≠ y) : y = !x := by cases x <;> cases y <;> first | rfl | exact absurd rfl h
theorem ht_pi.step {N : ht_N} {F : List Nat} {top : Option Nat} {L : ht_L} {k bk bv : ht_K} {a lv : Nat} {f f' : Nat → Int64} (hT : ht_T N F top L) (h : ht_pi N F L k bk a lv f) (hb : (bk, bv) ∈ L) {zo : Nat × Nat} (hp : ht_rp (N a) = .inr zo) (hlt : ht_rl (N a) < ht_part k bk) {hv : ht_K} (hhv : hv = ht_h ht_dgf (255 - ht_rl (N a)) (ht_U N L (ht_ch zo (!ht_bit k (ht_rl (N a)))))) (hf : ∀ j i, i < 4 → f' (j * 4 + i) = if j = ht_rl (N a) then ht_kf hv i else f (j * 4 + i)) : ht_pi N F L k bk (ht_ch zo (ht_bit k (ht_rl (N a)))) (ht_rl (N a) + 1) f' := by
  have hlow : ∀ {d : Nat}, d ≤ ht_rl (N a) → ∀ {q : ht_K}, ht_in N a q → d ≤ ht_part k q := fun {d} hd {q} hq => h.low hT hd (by omega) hq
  obtain ⟨ha, hle, hib, hio, hlen, hs⟩ := id h
  have h256 := (hT.half ha hp false).2.1
  have hz := hT.half ha hp (ht_bit k (ht_rl (N a)))
  have hz' := hT.half ha hp (!ht_bit k (ht_rl (N a)))
  refine ⟨hz.1, hz.2.2.1, (hz.2.2.2 (bk, bv) hb).mp ⟨hib, (ht_part_ag k bk _ hlt).symm⟩, fun q hq => ⟨fun h1 => ?_, fun h1 => ?_⟩, fun j hj => ?_, fun j i hj hi => ?_⟩
  · exact (hz.2.2.2 q hq).mp ⟨(hio q hq).mp (by omega), (ht_part_ag k q.1 _ (by omega)).symm⟩
  · obtain ⟨h2, h3⟩ := (hz.2.2.2 q hq).mpr h1
    have h4 := hlow (Nat.le_refl _) h2
    refine Nat.lt_of_le_of_ne h4 (fun e => ?_)
    exact ht_part_ne (k := k) (k' := q.1) (by omega) (by rw [← e]; exact h3.symm)
  · by_cases e : j < lv
    · exact hlen j e
    · rw [ht_Uk_U (N := N) (a := a) (fun q hq => ⟨fun h1 => (hio q hq).mp (by omega), fun h1 => hlow (by omega) h1⟩)]
      exact hT.len ha hp
  · rw [hf j i hi]
    by_cases e : j = ht_rl (N a)
    · rw [if_pos e, if_pos (by omega), hhv, e]
      congr 2
      refine (ht_Vk_U (fun q hq => ⟨fun h1 => ?_, fun h1 => ?_⟩)).symm
      · refine (hz'.2.2.2 q hq).mp ⟨(hio q hq).mp (by omega), ht_bb ?_⟩
        have := ht_part_ne (k := k) (k' := q.1) (by omega)
        rw [h1] at this
        exact this
      · obtain ⟨h2, h3⟩ := (hz'.2.2.2 q hq).mpr h1
        have h4 := hlow (Nat.le_refl _) h2
        refine Nat.le_antisymm (Nat.not_lt.mp (fun h5 => ?_)) h4
        have := ht_part_ag k q.1 _ h5
        rw [h3] at this
        cases hc : ht_bit k (ht_rl (N a)) <;> rw [hc] at this <;> cases this
    · rw [if_neg e, hs j i hj hi]
      by_cases e1 : j < lv
      · rw [if_pos e1, if_pos (by omega)]
      · rw [if_neg e1]
        by_cases e2 : j < ht_rl (N a) + 1
        · rw [if_pos e2, ht_Vk_nil (fun q hq h1 => ?_), ht_h_nil, ht_kz0]
          have h2 := hlow (Nat.le_refl _) ((hio q hq).mp (by omega))
          omega
        · rw [if_neg e2]
theorem ht_pi.leaf {N : ht_N} {F : List Nat} {top : Option Nat} {L : ht_L} {k : ht_K} {a b lv : Nat} {f : Nat → Int64} (hT : ht_T N F top L) (h : ht_pi N F L k (ht_rk (N b)) a lv f) (hb : b ∈ F) {v v' : ht_K} (hp : ht_rp (N a) = .inl v) (hpb : ht_rp (N b) = .inl v') {enf : Nat → Int64} {ei : Int32} (hei : (ht_part k (ht_rk (N b)) = 256 ∧ ei = 1) ∨ (ht_part k (ht_rk (N b)) ≠ 256 ∧ ei = 2)) (he : ∀ i, i < 4 → enf i = ht_kf (ht_rk (N b)) i ∧ enf (4 + i) = ht_kf v' i) : ht_pv L k lv f enf ei := by
  have e : a = b := hT.leaf_eq hb h.1 hpb hp ((hT.leaf_in h.1 hp _).mp h.2.2.1)
  subst e
  obtain ⟨ha, hle, hib, hio, hlen, hs⟩ := id h
  have h256 := (hT.2.2.2.1 a ha v hp).1
  refine ⟨by omega, hlen, hs, Or.inr ⟨ht_rk (N a), v', ?_, ?_, he⟩⟩
  · rw [ht_Uk_U hio, hT.U_leaf ha hpb]
  · rcases hei with ⟨h1, h2⟩ | ⟨h1, h2⟩
    · exact Or.inl ⟨(ht_part_eq.mp h1).symm, h2⟩
    · exact Or.inr ⟨fun e => h1 (ht_part_eq.mpr e.symm), h2⟩
theorem ht_pi.lt {N : ht_N} {F : List Nat} {top : Option Nat} {L : ht_L} {k bk : ht_K} {a lv : Nat} {f : Nat → Int64} (hT : ht_T N F top L) (h : ht_pi N F L k bk a lv f) (hmax : ∀ q ∈ L, ht_part k q.1 ≤ ht_part k bk) {zo : Nat × Nat} (hp : ht_rp (N a) = .inr zo) (hge : ht_part k bk ≤ ht_rl (N a)) : ht_part k bk < ht_rl (N a) := by
  refine Nat.lt_of_le_of_ne hge (fun e => ?_)
  have h256 := (hT.half h.1 hp false).2.1
  obtain ⟨q, hq, h1, h2, -⟩ := hT.side h.1 hp (ht_bit k (ht_rl (N a)))
  have h3 : ht_ag k q.1 (ht_rl (N a)) := ht_ag_trans (ht_ag_le (ht_part_ag k bk) (by omega)) (hT.two h.1 h.2.2.1 h1)
  have h4 : ht_ag k q.1 (ht_rl (N a) + 1) := ht_ag_s h3 h2.symm
  have h5 := (ht_ag_part (by omega)).mp h4
  have h6 := hmax q hq
  omega
theorem ht_pi.branch {N : ht_N} {F : List Nat} {top : Option Nat} {L : ht_L} {k bk bv : ht_K} {a lv : Nat} {f f' : Nat → Int64} (hT : ht_T N F top L) (h : ht_pi N F L k bk a lv f) (hb : (bk, bv) ∈ L) (hmax : ∀ q ∈ L, ht_part k q.1 ≤ ht_part k bk) {zo : Nat × Nat} (hp : ht_rp (N a) = .inr zo) (hlt : ht_part k bk < ht_rl (N a)) {hv : ht_K} (hhv : hv = ht_h ht_dgf (256 - (ht_part k bk + 1)) (ht_U N L a)) (hf : ∀ j i, i < 4 → f' (j * 4 + i) = if j = ht_part k bk then ht_kf hv i else f (j * 4 + i)) {enf : Nat → Int64} (he : ∀ i, i < 8 → enf i = 0) : ht_pv L k (ht_part k bk + 1) f' enf 0 := by
  obtain ⟨ha, hle, hib, hio, hlen, hs⟩ := id h
  have h256 := (hT.half ha hp false).2.1
  have hlo : lv ≤ ht_part k bk := (hio (bk, bv) hb).mpr hib
  have hin : ∀ q ∈ L, ht_in N a q.1 → ht_part k q.1 = ht_part k bk := fun q hq hi => by
    refine ht_part_is (ht_part_le k bk) (ht_ag_trans (ht_part_ag k bk) (ht_ag_le (hT.two ha hib hi) (by omega))) (fun _ => ?_)
    rw [← hT.two ha hib hi _ hlt]
    exact ht_part_ne (by omega)
  refine ⟨by omega, fun j hj => ?_, fun j i hj hi => ?_, Or.inl ⟨ht_Uk_nil (fun q hq h1 => ?_), rfl, he⟩⟩
  · by_cases e : j < lv
    · exact hlen j e
    · rw [ht_Uk_U (N := N) (a := a) (fun q hq => ⟨fun h1 => (hio q hq).mp (by omega), fun h1 => by rw [hin q hq h1]; omega⟩)]
      exact hT.len ha hp
  · rw [hf j i hi]
    by_cases e : j = ht_part k bk
    · rw [if_pos e, if_pos (by omega), hhv, e, show 256 - (ht_part k bk + 1) = 255 - ht_part k bk by omega]
      congr 2
      exact (ht_Vk_U (fun q hq => ⟨fun h1 => (hio q hq).mp (by omega), fun h1 => hin q hq h1⟩)).symm
    · rw [if_neg e, hs j i hj hi]
      by_cases e1 : j < lv
      · rw [if_pos e1, if_pos (by omega)]
      · rw [if_neg e1]
        by_cases e2 : j < ht_part k bk + 1
        · rw [if_pos e2, ht_Vk_nil (fun q hq h1 => ?_), ht_h_nil, ht_kz0]
          have h2 := hin q hq ((hio q hq).mp (by omega))
          omega
        · rw [if_neg e2]
  · have := hmax q hq
    omega
theorem ht_pv_nil {k : ht_K} {sbf enf : Nat → Int64} (hs : ∀ j, j < 1024 → sbf j = 0) (he : ∀ j, j < 8 → enf j = 0) : ht_pv [] k 0 sbf enf 0 := ⟨Nat.zero_le _, fun j hj => absurd hj (Nat.not_lt_zero j), fun j i hj hi => by rw [if_neg (Nat.not_lt_zero j)]; exact hs _ (by omega), Or.inl ⟨rfl, rfl, he⟩⟩
theorem ht_cpr {hk f : Nat → Int64} {d : Nat} : ∀ j i, i < 4 → va_cpy hk f 0 (d * 4) 4 (j * 4 + i) = if j = d then hk i else f (j * 4 + i) := by
  intro j i hi
  by_cases e : j = d
  · rw [if_pos e, pk_cpy_in (by omega) (by omega)]
    congr 1
    omega
  · rw [if_neg e, pk_cpy_out (by omega)]
theorem ht_cpe {fk fv f : Nat → Int64} : ∀ i, i < 4 → va_cpy fv (va_cpy fk f 0 0 4) 0 4 4 i = fk i ∧ va_cpy fv (va_cpy fk f 0 0 4) 0 4 4 (4 + i) = fv i := by
  intro i hi
  refine ⟨?_, ?_⟩
  · rw [pk_cpy_out (by omega), pk_cpy_in (by omega) (by omega)]
    congr 1
    omega
  · rw [pk_cpy_in (by omega) (by omega)]
    congr 1
    omega
end
section
set_option maxHeartbeats 4000000 in
set_option maxRecDepth 100000 in
theorem c_X_prove (l : Launch) (g : ht_G) (w : ht_W) {X : Nat → Nat} {tg : Nat → Nat × Nat} {k : ht_K} {N : ht_N} {A : ht_AA} {F : List Nat} {top : Option Nat} {L : ht_L} {dt : ht_D} {opf : Nat → Option Nat} {sbf lsf enf : Nat → Int64} {ei : Int32} (hR : ht_Rp ht_dgf g w X tg k N A F top L dt opf sbf lsf enf ei) (hcap : L.length ≤ 512) : Met l y_X_prove ws_X_prove ({ frames := 7, cells := 0, slots := 0, locals := 220 } : Room) (va_Pc [.ref (X 0)] (ht_WS g w)) (ht_Qi g (fun r u => ∃ (N' : ht_N) (dt' : ht_D) (opf' : Nat → Option Nat) (sbf' lsf' enf' : Nat → Int64) (ei' : Int32) (D : Nat), ht_Rp ht_dgf g u X tg k N' A F top L dt' opf' sbf' lsf' enf' ei' ∧ ht_fr (fun b => (tg b).1 ≠ 0) w u ∧ ht_pv L k D sbf' enf' ei' ∧ r = nI D)) 0 0 (ht_A g) := by
  refine Met.ofW (cc := b_X_prove) (maxL := 7) (ret := (some .int)) (by decide) rfl ?_
  intro p e s m args below meth c s₁ BB hml hv
  obtain ⟨rfl, HW⟩ := hv
  have HW := ht_I.start HW
  have hx := BB.exec
  have hb := BB.bytes
  have hr := BB.returns
  have hts := atoms_spec (ws := ws_X_prove) BB.pre
  have htb : ∀ w ∈ bg, w.before _ s = true := fun w h => hts w (List.mem_cons_of_mem _ h)
  have hown : s.vm.findClass R_X = some m.cls := findClass_of_methodNamed BB.named
  have hlocks := BB.notSynchronized
  have hl := lv_entry ([.ref (X 0)]) (n := 7) (Nat.le_of_ble_eq_true rfl)
  rw [lg_entry_eq]
  generalize (lg_sl ([.ref (X 0)]) ++ List.replicate (7 - (lg_sl ([.ref (X 0)])).length) Slot.unset).toArray = ls at hl ⊢
  have hl : lv_has ls 7 [(0, .ref (X 0))] := hl
  obtain ⟨hX, hK, hDg, hOp, hSb, hLs, hEn, hN, hT, hF, htg, hlen⟩ := id hR
  unfold ht_xo at hX
  have loop : ∀ (N : ht_N) (dt : ht_D) (opf : Nat → Option Nat) (f3 : Nat → Int64) (b : Nat) (vb : ht_K) (pv : Int32), b ∈ F → ht_rp (N b) = .inl vb → (ht_rk (N b), vb) ∈ L → (∀ q ∈ L, ht_part k q.1 ≤ ht_part k (ht_rk (N b))) → (∀ j, j < 8 → f3 j = 0) → pv = nI (ht_part k (ht_rk (N b))) → ∀ (n a lv : Nat) (f : Nat → Int64) (u : ht_W), ht_Rp ht_dgf g u X tg k N A F top L dt opf f lsf f3 0 → ht_fr (fun b => (tg b).1 ≠ 0) w u → ht_pi N F L k (ht_rk (N b)) a lv f → ht_rf (N a) = true → 256 ≤ ht_rl (N a) + n → ∀ (H : Heap) (locs : List Loc) (ls : Array Slot) (lvv : Int32), lvv = nI lv → ht_I g s u H locs → lv_has ls 7 [(0, .ref (X 0)), (1, .ref b), (2, .int pv), (3, .int lvv), (4, .ref a)] → W p l e (headSpec ws_X_prove ({ frames := 7, cells := 0, slots := 0, locals := 220 } : Room)).room s m ([.ref (X 0)] : List Value).toArray below meth c H locs 0 0 (MQ below (ht_Qi g (fun r u => ∃ (N' : ht_N) (dt' : ht_D) (opf' : Nat → Option Nat) (sbf' lsf' enf' : Nat → Int64) (ei' : Int32) (D : Nat), ht_Rp ht_dgf g u X tg k N' A F top L dt' opf' sbf' lsf' enf' ei' ∧ ht_fr (fun b => (tg b).1 ≠ 0) w u ∧ ht_pv L k D sbf' enf' ei' ∧ r = nI D)) ([.ref (X 0)] : List Value).toArray s 0 0 (ht_A g)) (F0 m 56 ls []) := by
      intro N dt opf f3 b vb pv hbF hpb hbL hmax h3 epv n
      induction n with
      | zero =>
        intro a lv f u hRi hfri hpi hfra hn H locs ls lvv elv HW hl
        cases hp : ht_rp (N a) with
        | inl v =>
          obtain ⟨hX, hK, hDg, hOp, hSb, hLs, hEn, hN, hT, hF, htg, hlen⟩ := id hRi
          unfold ht_xo at hX
          have haF := hpi.1
          have hlvl := hpi.2.1
          have hal := hT.lv haF
          have hla := hN.lf haF hp
          have hbL := hN.lf hbF hpb
          refine lv_aload hx hb d_X_prove_56 (lv_at hl 4 rfl) ?_
          refine va_instNo hx hb hown (htb _ wd_87) HW.2.2.1.2.2.2.2.2.2.2.1 (HW.recv hla (q := (R_L, F_L, 5)) rfl) d_X_prove_58 ?_
          refine lv_if_eq (tgt := 141) hx hb d_X_prove_61 (by decide) (fun c61 => ?_) (fun c61 => ?_)
          · refine lv_aload hx hb d_X_prove_141 (lv_at hl 4 rfl) ?_
            refine va_instNo hx hb hown (htb _ wd_87) HW.2.2.1.2.2.2.2.2.2.2.1 (HW.recv hla (q := (R_L, F_L, 5)) rfl) d_X_prove_143 ?_
            refine lv_if_eq (tgt := 182) hx hb d_X_prove_146 (by decide) (fun c146 => ?_) (fun c146 => ?_)
            · refine lv_aload_n hx hb d_X_prove_182 rfl (lv_at hl 0 rfl) ?_
              refine lv_aload_n hx hb d_X_prove_183 rfl (lv_at hl 1 rfl) ?_
              refine ht_cv HW (va_runV (own := R_X) (C := R_X) (As := [.ref b]) (rest := []) ⟨hx, hb, hml, hown, htb⟩ (c_X_keepEnd l g u hX hEn hbL (hN b hbF).2.1 ((hN b hbF).2.2.2 vb hpb) (ht_tne ((htg.2 b hbF).2.2.2 vb hpb) (htg.1 8 (by decide)) (fun z9 => by cases z9))) (cwV 1 htb (ht_gv wd_279 wd_281 sl_10 wd_1 g_X_keepEnd) rfl rfl rfl (by decide +kernel) ⟨Nat.le_of_ble_eq_true rfl, Nat.le_of_ble_eq_true rfl⟩) (HW.preV hX rfl _) rfl rfl hl.1 rfl (lv_room (Nat.le_of_ble_eq_true rfl)) d_X_prove_184 ⟨Nat.le_of_ble_eq_true rfl, Nat.le_of_ble_eq_true rfl⟩) (fun u1 H locs ph HW => ?_)
              have hR2 := hRi.en (f := va_cpy (ht_kf vb) (va_cpy (ht_kf (ht_rk (N b))) f3 0 0 4) 0 4 4)
              rw [← ph] at hR2
              obtain ⟨hX2, -⟩ := id hR2
              unfold ht_xo at hX2
              refine lv_aload_n hx hb d_X_prove_187 rfl (lv_at hl 0 rfl) ?_
              refine lv_iload_n hx hb d_X_prove_188 rfl (lv_at hl 2 rfl) ?_
              refine lv_sipush (v := 256) hx hb d_X_prove_189 (by decide) ?_
              refine lv_icmp_ne (tgt := 199) hx hb d_X_prove_192 (by decide) (fun c192 => ?_) (fun c192 => ?_)
              · have hei : (ht_part k (ht_rk (N b)) = 256 ∧ (2 : Int32) = 1) ∨ (ht_part k (ht_rk (N b)) ≠ 256 ∧ (2 : Int32) = 2) := Or.inr ⟨fun z9 => c192 (by rw [epv, z9]; rfl), rfl⟩
                refine lv_iconst (v := 2) hx hb d_X_prove_199 (by decide) ?_
                refine ht_put (C := R_X) (T := F_X) (N := 9) (v := .int 2) (ty := .int) hx hb htb i_X t_X t_X_ok n_X hown HW hX2 rfl 8 (by decide) (htb _ wd_48) (fun _ h9 => h9) rfl (by decide +kernel) rfl rfl (Nat.le_of_ble_eq_true rfl) d_X_prove_200 (fun H locs HW => ?_)
                obtain ⟨u2, hu2⟩ : ∃ zW : ht_W, zW = ht_up u1 (X 0) (.inr (0, [.ref (X 1), .ref (X 2), .ref (X 5), va_rf top, .int (nI L.length), .ref (X 6), .ref (X 7), .ref (X 8), .int 2]) : va_E) := ⟨_, rfl⟩
                have HW : ht_I g s u2 H locs := by rw [hu2]; exact HW
                have hX2 : ht_at u2 (X 0) (.inr (0, [.ref (X 1), .ref (X 2), .ref (X 5), va_rf top, .int (nI L.length), .ref (X 6), .ref (X 7), .ref (X 8), .int 2]) : va_E) := by rw [hu2]; exact ht_at_self hX2
                refine lv_iload_n hx hb d_X_prove_203 rfl (lv_at hl 3 rfl) ?_
                exact ht_iret hx hb hr hlocks HW ⟨N, dt, opf, f, lsf, _, _, lv, by rw [hu2]; exact hR2.ei, by rw [hu2, ph]; exact (hfri.trans (ht_fr.up (S := fun b => (tg b).1 ≠ 0) (by rw [htg.1 8 (by decide)]; decide))).trans (ht_fr.up (S := fun b => (tg b).1 ≠ 0) (by rw [htg.1 0 (by decide)]; decide)), ht_pi.leaf hT hpi hbF hp hpb hei ht_cpe, elv⟩ d_X_prove_204
              · have hei : (ht_part k (ht_rk (N b)) = 256 ∧ (1 : Int32) = 1) ∨ (ht_part k (ht_rk (N b)) ≠ 256 ∧ (1 : Int32) = 2) := Or.inl ⟨by
                  rw [epv] at c192
                  exact (nI_eq (by have := ht_part_le k (ht_rk (N b)); omega) (by omega)).mp c192, rfl⟩
                refine lv_iconst (v := 1) hx hb d_X_prove_195 (by decide) ?_
                refine lv_goto (tgt := 200) hx hb d_X_prove_196 (by decide) ?_
                refine ht_put (C := R_X) (T := F_X) (N := 9) (v := .int 1) (ty := .int) hx hb htb i_X t_X t_X_ok n_X hown HW hX2 rfl 8 (by decide) (htb _ wd_48) (fun _ h9 => h9) rfl (by decide +kernel) rfl rfl (Nat.le_of_ble_eq_true rfl) d_X_prove_200 (fun H locs HW => ?_)
                obtain ⟨u3, hu3⟩ : ∃ zW : ht_W, zW = ht_up u1 (X 0) (.inr (0, [.ref (X 1), .ref (X 2), .ref (X 5), va_rf top, .int (nI L.length), .ref (X 6), .ref (X 7), .ref (X 8), .int 1]) : va_E) := ⟨_, rfl⟩
                have HW : ht_I g s u3 H locs := by rw [hu3]; exact HW
                have hX2 : ht_at u3 (X 0) (.inr (0, [.ref (X 1), .ref (X 2), .ref (X 5), va_rf top, .int (nI L.length), .ref (X 6), .ref (X 7), .ref (X 8), .int 1]) : va_E) := by rw [hu3]; exact ht_at_self hX2
                refine lv_iload_n hx hb d_X_prove_203 rfl (lv_at hl 3 rfl) ?_
                exact ht_iret hx hb hr hlocks HW ⟨N, dt, opf, f, lsf, _, _, lv, by rw [hu3]; exact hR2.ei, by rw [hu3, ph]; exact (hfri.trans (ht_fr.up (S := fun b => (tg b).1 ≠ 0) (by rw [htg.1 8 (by decide)]; decide))).trans (ht_fr.up (S := fun b => (tg b).1 ≠ 0) (by rw [htg.1 0 (by decide)]; decide)), ht_pi.leaf hT hpi hbF hp hpb hei ht_cpe, elv⟩ d_X_prove_204
            · exact absurd rfl c146
          · exact absurd rfl c61
        | inr zo =>
          obtain ⟨hX, hK, hDg, hOp, hSb, hLs, hEn, hN, hT, hF, htg, hlen⟩ := id hRi
          unfold ht_xo at hX
          have haF := hpi.1
          have hlvl := hpi.2.1
          have hal := hT.lv haF
          have hla := hN.br haF hp
          have h256 := (hT.half haF hp false).2.1
          omega
      | succ n ih =>
        intro a lv f u hRi hfri hpi hfra hn H locs ls lvv elv HW hl
        cases hp : ht_rp (N a) with
        | inl v =>
          obtain ⟨hX, hK, hDg, hOp, hSb, hLs, hEn, hN, hT, hF, htg, hlen⟩ := id hRi
          unfold ht_xo at hX
          have haF := hpi.1
          have hlvl := hpi.2.1
          have hal := hT.lv haF
          have hla := hN.lf haF hp
          have hbL := hN.lf hbF hpb
          refine lv_aload hx hb d_X_prove_56 (lv_at hl 4 rfl) ?_
          refine va_instNo hx hb hown (htb _ wd_87) HW.2.2.1.2.2.2.2.2.2.2.1 (HW.recv hla (q := (R_L, F_L, 5)) rfl) d_X_prove_58 ?_
          refine lv_if_eq (tgt := 141) hx hb d_X_prove_61 (by decide) (fun c61 => ?_) (fun c61 => ?_)
          · refine lv_aload hx hb d_X_prove_141 (lv_at hl 4 rfl) ?_
            refine va_instNo hx hb hown (htb _ wd_87) HW.2.2.1.2.2.2.2.2.2.2.1 (HW.recv hla (q := (R_L, F_L, 5)) rfl) d_X_prove_143 ?_
            refine lv_if_eq (tgt := 182) hx hb d_X_prove_146 (by decide) (fun c146 => ?_) (fun c146 => ?_)
            · refine lv_aload_n hx hb d_X_prove_182 rfl (lv_at hl 0 rfl) ?_
              refine lv_aload_n hx hb d_X_prove_183 rfl (lv_at hl 1 rfl) ?_
              refine ht_cv HW (va_runV (own := R_X) (C := R_X) (As := [.ref b]) (rest := []) ⟨hx, hb, hml, hown, htb⟩ (c_X_keepEnd l g u hX hEn hbL (hN b hbF).2.1 ((hN b hbF).2.2.2 vb hpb) (ht_tne ((htg.2 b hbF).2.2.2 vb hpb) (htg.1 8 (by decide)) (fun z9 => by cases z9))) (cwV 1 htb (ht_gv wd_279 wd_281 sl_10 wd_1 g_X_keepEnd) rfl rfl rfl (by decide +kernel) ⟨Nat.le_of_ble_eq_true rfl, Nat.le_of_ble_eq_true rfl⟩) (HW.preV hX rfl _) rfl rfl hl.1 rfl (lv_room (Nat.le_of_ble_eq_true rfl)) d_X_prove_184 ⟨Nat.le_of_ble_eq_true rfl, Nat.le_of_ble_eq_true rfl⟩) (fun u1 H locs ph HW => ?_)
              have hR2 := hRi.en (f := va_cpy (ht_kf vb) (va_cpy (ht_kf (ht_rk (N b))) f3 0 0 4) 0 4 4)
              rw [← ph] at hR2
              obtain ⟨hX2, -⟩ := id hR2
              unfold ht_xo at hX2
              refine lv_aload_n hx hb d_X_prove_187 rfl (lv_at hl 0 rfl) ?_
              refine lv_iload_n hx hb d_X_prove_188 rfl (lv_at hl 2 rfl) ?_
              refine lv_sipush (v := 256) hx hb d_X_prove_189 (by decide) ?_
              refine lv_icmp_ne (tgt := 199) hx hb d_X_prove_192 (by decide) (fun c192 => ?_) (fun c192 => ?_)
              · have hei : (ht_part k (ht_rk (N b)) = 256 ∧ (2 : Int32) = 1) ∨ (ht_part k (ht_rk (N b)) ≠ 256 ∧ (2 : Int32) = 2) := Or.inr ⟨fun z9 => c192 (by rw [epv, z9]; rfl), rfl⟩
                refine lv_iconst (v := 2) hx hb d_X_prove_199 (by decide) ?_
                refine ht_put (C := R_X) (T := F_X) (N := 9) (v := .int 2) (ty := .int) hx hb htb i_X t_X t_X_ok n_X hown HW hX2 rfl 8 (by decide) (htb _ wd_48) (fun _ h9 => h9) rfl (by decide +kernel) rfl rfl (Nat.le_of_ble_eq_true rfl) d_X_prove_200 (fun H locs HW => ?_)
                obtain ⟨u2, hu2⟩ : ∃ zW : ht_W, zW = ht_up u1 (X 0) (.inr (0, [.ref (X 1), .ref (X 2), .ref (X 5), va_rf top, .int (nI L.length), .ref (X 6), .ref (X 7), .ref (X 8), .int 2]) : va_E) := ⟨_, rfl⟩
                have HW : ht_I g s u2 H locs := by rw [hu2]; exact HW
                have hX2 : ht_at u2 (X 0) (.inr (0, [.ref (X 1), .ref (X 2), .ref (X 5), va_rf top, .int (nI L.length), .ref (X 6), .ref (X 7), .ref (X 8), .int 2]) : va_E) := by rw [hu2]; exact ht_at_self hX2
                refine lv_iload_n hx hb d_X_prove_203 rfl (lv_at hl 3 rfl) ?_
                exact ht_iret hx hb hr hlocks HW ⟨N, dt, opf, f, lsf, _, _, lv, by rw [hu2]; exact hR2.ei, by rw [hu2, ph]; exact (hfri.trans (ht_fr.up (S := fun b => (tg b).1 ≠ 0) (by rw [htg.1 8 (by decide)]; decide))).trans (ht_fr.up (S := fun b => (tg b).1 ≠ 0) (by rw [htg.1 0 (by decide)]; decide)), ht_pi.leaf hT hpi hbF hp hpb hei ht_cpe, elv⟩ d_X_prove_204
              · have hei : (ht_part k (ht_rk (N b)) = 256 ∧ (1 : Int32) = 1) ∨ (ht_part k (ht_rk (N b)) ≠ 256 ∧ (1 : Int32) = 2) := Or.inl ⟨by
                  rw [epv] at c192
                  exact (nI_eq (by have := ht_part_le k (ht_rk (N b)); omega) (by omega)).mp c192, rfl⟩
                refine lv_iconst (v := 1) hx hb d_X_prove_195 (by decide) ?_
                refine lv_goto (tgt := 200) hx hb d_X_prove_196 (by decide) ?_
                refine ht_put (C := R_X) (T := F_X) (N := 9) (v := .int 1) (ty := .int) hx hb htb i_X t_X t_X_ok n_X hown HW hX2 rfl 8 (by decide) (htb _ wd_48) (fun _ h9 => h9) rfl (by decide +kernel) rfl rfl (Nat.le_of_ble_eq_true rfl) d_X_prove_200 (fun H locs HW => ?_)
                obtain ⟨u3, hu3⟩ : ∃ zW : ht_W, zW = ht_up u1 (X 0) (.inr (0, [.ref (X 1), .ref (X 2), .ref (X 5), va_rf top, .int (nI L.length), .ref (X 6), .ref (X 7), .ref (X 8), .int 1]) : va_E) := ⟨_, rfl⟩
                have HW : ht_I g s u3 H locs := by rw [hu3]; exact HW
                have hX2 : ht_at u3 (X 0) (.inr (0, [.ref (X 1), .ref (X 2), .ref (X 5), va_rf top, .int (nI L.length), .ref (X 6), .ref (X 7), .ref (X 8), .int 1]) : va_E) := by rw [hu3]; exact ht_at_self hX2
                refine lv_iload_n hx hb d_X_prove_203 rfl (lv_at hl 3 rfl) ?_
                exact ht_iret hx hb hr hlocks HW ⟨N, dt, opf, f, lsf, _, _, lv, by rw [hu3]; exact hR2.ei, by rw [hu3, ph]; exact (hfri.trans (ht_fr.up (S := fun b => (tg b).1 ≠ 0) (by rw [htg.1 8 (by decide)]; decide))).trans (ht_fr.up (S := fun b => (tg b).1 ≠ 0) (by rw [htg.1 0 (by decide)]; decide)), ht_pi.leaf hT hpi hbF hp hpb hei ht_cpe, elv⟩ d_X_prove_204
            · exact absurd rfl c146
          · exact absurd rfl c61
        | inr zo =>
          obtain ⟨hX, hK, hDg, hOp, hSb, hLs, hEn, hN, hT, hF, htg, hlen⟩ := id hRi
          unfold ht_xo at hX
          have haF := hpi.1
          have hlvl := hpi.2.1
          have hal := hT.lv haF
          have hla := hN.br haF hp
          have h256 := (hT.half haF hp false).2.1
          refine lv_aload hx hb d_X_prove_56 (lv_at hl 4 rfl) ?_
          refine va_instS hx hb hown (htb _ wd_87) (HW.2.1.1 3 _ rfl).2 (HW.recv hla (q := (R_B, F_B, 6)) rfl) d_X_prove_58 ?_
          refine lv_if_eq (tgt := 141) hx hb d_X_prove_61 (by decide) (fun c61 => ?_) (fun c61 => ?_)
          · exact absurd c61 (by decide)
          · refine lv_aload hx hb d_X_prove_64 (lv_at hl 4 rfl) ?_
            refine va_castS hx hb hown (htb _ wd_87) (HW.2.1.1 3 _ rfl).2 (HW.recv hla (q := (R_B, F_B, 6)) rfl) d_X_prove_66 ?_
            refine lv_astore (lv' := [(5, .ref a), (0, .ref (X 0)), (1, .ref b), (2, .int pv), (3, .int lvv), (4, .ref a)]) hx hb d_X_prove_69 hl (by decide) rfl (fun ls hl => ?_)
            refine lv_aload hx hb d_X_prove_71 (lv_at hl 0 rfl) ?_
            refine ht_get (C := R_B) (T := F_B) (N := 6) (v := .int (nI (ht_rl (N a)))) hx hb htb i_B hown HW hla rfl 1 (by decide) (htb _ wd_133) (fun x h9 => u_same (htb _ wd_134) x h9) rfl d_X_prove_73 ?_
            refine lv_iload_n hx hb d_X_prove_76 rfl (lv_at hl 3 rfl) ?_
            refine lv_icmp_ge (tgt := 141) hx hb d_X_prove_77 (by decide) (fun c77 => ?_) (fun c77 => ?_)
            · have hge : ht_part k (ht_rk (N b)) ≤ ht_rl (N a) := Nat.not_lt.mp (fun z9 => nI_ge z9 (by have := ht_part_le k (ht_rk (N b)); omega) (show nI (ht_part k (ht_rk (N b))) ≤ nI (ht_rl (N a)) by rw [epv] at c77; exact c77))
              have hplt := hpi.lt hT hmax hp hge
              refine lv_aload hx hb d_X_prove_141 (lv_at hl 5 rfl) ?_
              refine va_instS hx hb hown (htb _ wd_87) (HW.2.1.1 3 _ rfl).2 (HW.recv hla (q := (R_B, F_B, 6)) rfl) d_X_prove_143 ?_
              refine lv_if_eq (tgt := 182) hx hb d_X_prove_146 (by decide) (fun c146 => ?_) (fun c146 => ?_)
              · exact absurd c146 (by decide)
              · refine lv_aload hx hb d_X_prove_149 (lv_at hl 5 rfl) ?_
                refine va_castS hx hb hown (htb _ wd_87) (HW.2.1.1 3 _ rfl).2 (HW.recv hla (q := (R_B, F_B, 6)) rfl) d_X_prove_151 ?_
                refine lv_astore (lv' := [(5, .ref a), (0, .ref (X 0)), (1, .ref b), (2, .int pv), (3, .int lvv), (4, .ref a)]) hx hb d_X_prove_154 hl (by decide) rfl (fun ls hl => ?_)
                refine lv_aload_n hx hb d_X_prove_156 rfl (lv_at hl 1 rfl) ?_
                refine lv_aload hx hb d_X_prove_157 (lv_at hl 0 rfl) ?_
                refine lv_iload_n hx hb d_X_prove_159 rfl (lv_at hl 3 rfl) ?_
                refine lv_iconst (v := 1) hx hb d_X_prove_160 (by decide) ?_
                refine lv_iadd hx hb d_X_prove_161 ?_
                refine lv_topi (fun lv1 elv1 => ?_)
                have hlv1 : lv1 = nI (ht_part k (ht_rk (N b)) + 1) := by rw [elv1, epv, nI_1]
                refine lv_aload_n hx hb d_X_prove_162 rfl (lv_at hl 1 rfl) ?_
                refine ht_get (C := R_X) (T := F_X) (N := 9) (v := .ref (X 7)) hx hb htb i_X hown HW hX rfl 6 (by decide) (htb _ wd_46) (fun _ h9 => h9) rfl d_X_prove_163 ?_
                refine ht_cv HW (va_runV (own := R_X) (C := R_X) (As := [.ref a, .int lv1, .ref (X 7)]) (rest := []) ⟨hx, hb, hml, hown, htb⟩ (c_X_hashAt_B l g u hX hDg hN hT haF hLs (ht_tne (htg.2 a haF).2.1 (htg.1 7 (by decide)) (fun z9 => by cases z9)) hp (ht_part k (ht_rk (N b)) + 1) (by omega) lv1 hlv1) (cwV 3 htb (ht_gv wd_217 wd_219 sl_6 wd_1 g_X_hashAt) rfl rfl rfl (by decide +kernel) ⟨Nat.le_of_ble_eq_true rfl, Nat.le_of_ble_eq_true rfl⟩) (HW.preV hX rfl _) rfl rfl hl.1 rfl (lv_room (Nat.le_of_ble_eq_true rfl)) d_X_prove_166 ⟨Nat.le_of_ble_eq_true rfl, Nat.le_of_ble_eq_true rfl⟩) (fun u1 H locs ph HW => ?_)
                obtain ⟨dt1, eu1⟩ := ph
                have hHV := hT.hash_cv haF hp (hz := ht_rh (N zo.1)) (ho := ht_rh (N zo.2)) ((hF.2 a haF zo hp false).1 ((hF.2 a haF zo hp false).2 hfra)) ((hF.2 a haF zo hp true).1 ((hF.2 a haF zo hp true).2 hfra)) (ht_rl (N a) - (ht_part k (ht_rk (N b)) + 1)) (Nat.sub_le _ _)
                rw [show ht_rl (N a) - (ht_rl (N a) - (ht_part k (ht_rk (N b)) + 1)) = ht_part k (ht_rk (N b)) + 1 by omega] at hHV
                have hR2 := (hRi.dw (dt' := dt1)).ls (f := ht_kf (ht_chn (ht_rk (N a)) (ht_rl (N a)) (ht_dgf 1 (ht_rh (N zo.1)) (ht_rh (N zo.2))) (ht_rl (N a) - (ht_part k (ht_rk (N b)) + 1))))
                rw [← eu1] at hR2
                obtain ⟨hX2, -, -, -, hSb2, hLs2, -⟩ := id hR2
                unfold ht_xo at hX2
                refine lv_aload_n hx hb d_X_prove_169 rfl (lv_at hl 1 rfl) ?_
                refine lv_iload_n hx hb d_X_prove_170 rfl (lv_at hl 3 rfl) ?_
                refine lv_aload_n hx hb d_X_prove_171 rfl (lv_at hl 1 rfl) ?_
                refine ht_get (C := R_X) (T := F_X) (N := 9) (v := .ref (X 7)) hx hb htb i_X hown HW hX2 rfl 6 (by decide) (htb _ wd_46) (fun _ h9 => h9) rfl d_X_prove_172 ?_
                refine ht_cv HW (va_runV (own := R_X) (C := R_X) (As := [.int pv, .ref (X 7)]) (rest := []) ⟨hx, hb, hml, hown, htb⟩ (c_X_keepSibling l g u1 hX2 hSb2 hLs2 (ht_part k (ht_rk (N b))) (by omega) pv epv) (cwV 2 htb (ht_gv wd_274 wd_276 sl_9 wd_1 g_X_keepSibling) rfl rfl rfl (by decide +kernel) ⟨Nat.le_of_ble_eq_true rfl, Nat.le_of_ble_eq_true rfl⟩) (HW.preV hX2 rfl _) rfl rfl hl.1 rfl (lv_room (Nat.le_of_ble_eq_true rfl)) d_X_prove_175 ⟨Nat.le_of_ble_eq_true rfl, Nat.le_of_ble_eq_true rfl⟩) (fun u2 H locs pk HW => ?_)
                refine lv_iload_n hx hb d_X_prove_178 rfl (lv_at hl 3 rfl) ?_
                refine lv_iconst (v := 1) hx hb d_X_prove_179 (by decide) ?_
                refine lv_iadd hx hb d_X_prove_180 ?_
                refine lv_topi (fun rr err => ?_)
                exact ht_iret hx hb hr hlocks HW ⟨N, dt1, opf, _, _, f3, 0, ht_part k (ht_rk (N b)) + 1, by rw [pk]; exact hR2.sb, by rw [pk, eu1]; exact ((hfri.trans (ht_frp (by rw [htg.1 2 (by decide)]; decide) (by rw [htg.1 3 (by decide)]; decide) (by rw [htg.1 4 (by decide)]; decide))).trans (ht_fr.up (S := fun b => (tg b).1 ≠ 0) (by rw [htg.1 7 (by decide)]; decide))).trans (ht_fr.up (S := fun b => (tg b).1 ≠ 0) (by rw [htg.1 6 (by decide)]; decide)), hpi.branch hT hbL hmax hp hplt hHV ht_cpr h3, by rw [err, epv, nI_1]⟩ d_X_prove_181
            · have hplt : ht_rl (N a) < ht_part k (ht_rk (N b)) := Nat.not_le.mp (fun z9 => c77 (by rw [epv]; exact nI_le z9 (by omega)))
              refine lv_aload_n hx hb d_X_prove_80 rfl (lv_at hl 1 rfl) ?_
              refine ht_get (C := R_X) (T := F_X) (N := 9) (v := .ref (X 1)) hx hb htb i_X hown HW hX rfl 0 (by decide) (htb _ wd_40) (fun _ h9 => h9) rfl d_X_prove_81 ?_
              refine lv_aload hx hb d_X_prove_84 (lv_at hl 0 rfl) ?_
              refine ht_get (C := R_B) (T := F_B) (N := 6) (v := .int (nI (ht_rl (N a)))) hx hb htb i_B hown HW hla rfl 1 (by decide) (htb _ wd_133) (fun x h9 => u_same (htb _ wd_134) x h9) rfl d_X_prove_86 ?_
              refine ht_ci HW (va_runS (own := R_X) (As := [.ref (X 1), .int (nI (ht_rl (N a)))]) (rest := []) ⟨hx, hb, hml, hown, htb⟩ (c_X_isOne l g u hK (ht_rl (N a)) h256 _ rfl) (va_cwS 2 htb (ht_gs wd_88 wd_89 wd_1 g_X_isOne) rfl rfl rfl (by decide +kernel) ⟨Nat.le_of_ble_eq_true rfl, Nat.le_of_ble_eq_true rfl⟩) (HW.preS _) rfl rfl hl.1 rfl (lv_room (Nat.le_of_ble_eq_true rfl)) d_X_prove_89 ⟨Nat.le_of_ble_eq_true rfl, Nat.le_of_ble_eq_true rfl⟩) (fun qb u3 H locs pu3 HW => ?_)
              obtain ⟨eqb, eu3⟩ := pu3
              subst eu3
              refine lv_istore (lv' := [(6, .int qb), (5, .ref a), (0, .ref (X 0)), (1, .ref b), (2, .int pv), (3, .int lvv), (4, .ref a)]) hx hb d_X_prove_92 hl (by decide) rfl (fun ls hl => ?_)
              refine lv_aload_n hx hb d_X_prove_94 rfl (lv_at hl 2 rfl) ?_
              refine lv_aload hx hb d_X_prove_95 (lv_at hl 1 rfl) ?_
              refine ht_get (C := R_B) (T := F_B) (N := 6) (v := .int (nI (ht_rl (N a)))) hx hb htb i_B hown HW hla rfl 1 (by decide) (htb _ wd_133) (fun x h9 => u_same (htb _ wd_134) x h9) rfl d_X_prove_97 ?_
              refine lv_aload hx hb d_X_prove_100 (lv_at hl 1 rfl) ?_
              refine lv_iload hx hb d_X_prove_102 (lv_at hl 0 rfl) ?_
              refine lv_if_ne (tgt := 111) hx hb d_X_prove_104 (by decide) (fun c104 => ?_) (fun c104 => ?_)
              · have hbt := ht_b1_1 (b := (ht_bit k (ht_rl (N a)))) (by rw [← eqb]; exact c104)
                refine lv_iconst (v := 0) hx hb d_X_prove_111 (by decide) ?_
                rw [show (0 : Int32) = ht_b1 (!(ht_bit k (ht_rl (N a)))) by rw [hbt]; rfl]
                refine ht_cq HW (va_runV (own := R_X) (C := R_B) (As := [.int (ht_b1 (!(ht_bit k (ht_rl (N a)))))]) (rest := [.int (nI (ht_rl (N a))), .ref (X 0)]) ⟨hx, hb, hml, hown, htb⟩ (c_B_half l g u hla (!(ht_bit k (ht_rl (N a))))) (cwV 1 htb (ht_gv wd_91 wd_92 wd_93 wd_8 g_B_half) rfl rfl rfl (by decide +kernel) ⟨Nat.le_of_ble_eq_true rfl, Nat.le_of_ble_eq_true rfl⟩) (HW.preV hla rfl _) rfl rfl hl.1 rfl (lv_room (Nat.le_of_ble_eq_true rfl)) d_X_prove_112 ⟨Nat.le_of_ble_eq_true rfl, Nat.le_of_ble_eq_true rfl⟩) (fun q5 u4 H locs ph HW => ?_)
                obtain ⟨eh, eww⟩ := ph
                subst eww
                subst eh
                refine W.eq (g2 := F0 m 115 ls [.ref (ht_ch zo (!(ht_bit k (ht_rl (N a))))), .int (nI (ht_rl (N a))), .ref (X 0)]) rfl ?_
                have hoF := (hT.half haF hp (!(ht_bit k (ht_rl (N a))))).1
                have hoc := (hN _ hoF).1
                refine ht_ngt hx hb htb hown HW hoc 2 (by decide) (htb _ wd_137) (fun _ h9 => h9) (v := .ref (A (ht_ch zo (!(ht_bit k (ht_rl (N a)))))).2.1) rfl d_X_prove_115 ?_
                refine ht_cv HW (va_runV (own := R_X) (C := R_X) (As := [.int (nI (ht_rl (N a))), .ref (A (ht_ch zo (!(ht_bit k (ht_rl (N a)))))).2.1]) (rest := []) ⟨hx, hb, hml, hown, htb⟩ (c_X_keepSibling l g u hX hSb (hN (ht_ch zo (!(ht_bit k (ht_rl (N a))))) hoF).2.2.1 (ht_rl (N a)) h256 _ rfl) (cwV 2 htb (ht_gv wd_274 wd_276 sl_9 wd_1 g_X_keepSibling) rfl rfl rfl (by decide +kernel) ⟨Nat.le_of_ble_eq_true rfl, Nat.le_of_ble_eq_true rfl⟩) (HW.preV hX rfl _) rfl rfl hl.1 rfl (lv_room (Nat.le_of_ble_eq_true rfl)) d_X_prove_118 ⟨Nat.le_of_ble_eq_true rfl, Nat.le_of_ble_eq_true rfl⟩) (fun u6 H locs pk HW => ?_)
                have hR2 := hRi.sb (f := va_cpy (ht_kf (ht_rh (N (ht_ch zo (!(ht_bit k (ht_rl (N a)))))))) f 0 (ht_rl (N a) * 4) 4)
                rw [← pk] at hR2
                obtain ⟨hX2, -, -, -, -, -, -, hN2, -⟩ := id hR2
                unfold ht_xo at hX2
                have hla2 := hN2.br haF hp
                refine lv_aload hx hb d_X_prove_121 (lv_at hl 1 rfl) ?_
                refine ht_get (C := R_B) (T := F_B) (N := 6) (v := .int (nI (ht_rl (N a)))) hx hb htb i_B hown HW hla2 rfl 1 (by decide) (htb _ wd_133) (fun x h9 => u_same (htb _ wd_134) x h9) rfl d_X_prove_123 ?_
                refine lv_iconst (v := 1) hx hb d_X_prove_126 (by decide) ?_
                refine lv_iadd hx hb d_X_prove_127 ?_
                refine lv_topi (fun lv2 elv2 => ?_)
                refine lv_istore_n (lv' := [(3, .int lv2), (6, .int qb), (5, .ref a), (0, .ref (X 0)), (1, .ref b), (2, .int pv), (4, .ref a)]) hx hb d_X_prove_128 rfl hl (by decide) rfl (fun ls hl => ?_)
                refine lv_aload hx hb d_X_prove_129 (lv_at hl 2 rfl) ?_
                refine lv_iload hx hb d_X_prove_131 (lv_at hl 1 rfl) ?_
                rw [eqb]
                refine ht_cq HW (va_runV (own := R_X) (C := R_B) (As := [.int (ht_b1 (ht_bit k (ht_rl (N a))))]) (rest := []) ⟨hx, hb, hml, hown, htb⟩ (c_B_half l g u6 hla2 (ht_bit k (ht_rl (N a)))) (cwV 1 htb (ht_gv wd_91 wd_92 wd_93 wd_8 g_B_half) rfl rfl rfl (by decide +kernel) ⟨Nat.le_of_ble_eq_true rfl, Nat.le_of_ble_eq_true rfl⟩) (HW.preV hla2 rfl _) rfl rfl hl.1 rfl (lv_room (Nat.le_of_ble_eq_true rfl)) d_X_prove_133 ⟨Nat.le_of_ble_eq_true rfl, Nat.le_of_ble_eq_true rfl⟩) (fun q8 u7 H locs ph HW => ?_)
                obtain ⟨eh, eww⟩ := ph
                subst eww
                subst eh
                refine W.eq (g2 := F0 m 136 ls [.ref (ht_ch zo (ht_bit k (ht_rl (N a))))]) rfl ?_
                refine lv_astore (lv' := [(4, .ref (ht_ch zo (ht_bit k (ht_rl (N a))))), (3, .int lv2), (6, .int qb), (5, .ref a), (0, .ref (X 0)), (1, .ref b), (2, .int pv)]) hx hb d_X_prove_136 hl (by decide) rfl (fun ls hl => ?_)
                refine lv_goto (tgt := 56) hx hb d_X_prove_138 (by decide) ?_
                exact ih _ (ht_rl (N a) + 1) _ u6 hR2 (by rw [pk]; exact hfri.trans (ht_fr.up (S := fun b => (tg b).1 ≠ 0) (by rw [htg.1 6 (by decide)]; decide))) (hpi.step hT hbL hp hplt ((hF.2 a haF zo hp (!(ht_bit k (ht_rl (N a))))).1 ((hF.2 a haF zo hp (!(ht_bit k (ht_rl (N a))))).2 hfra)) ht_cpr) ((hF.2 a haF zo hp (ht_bit k (ht_rl (N a)))).2 hfra) (by have := (hT.half haF hp (ht_bit k (ht_rl (N a)))).2.2.1; omega) _ _ _ lv2 (by rw [elv2, nI_1]) HW (lv_sub hl [4, 5, 6, 1, 0] rfl)
              · have hbt := ht_b1_0 (b := (ht_bit k (ht_rl (N a)))) (by rw [← eqb]; exact c104)
                refine lv_iconst (v := 1) hx hb d_X_prove_107 (by decide) ?_
                refine lv_goto (tgt := 112) hx hb d_X_prove_108 (by decide) ?_
                rw [show (1 : Int32) = ht_b1 (!(ht_bit k (ht_rl (N a)))) by rw [hbt]; rfl]
                refine ht_cq HW (va_runV (own := R_X) (C := R_B) (As := [.int (ht_b1 (!(ht_bit k (ht_rl (N a)))))]) (rest := [.int (nI (ht_rl (N a))), .ref (X 0)]) ⟨hx, hb, hml, hown, htb⟩ (c_B_half l g u hla (!(ht_bit k (ht_rl (N a))))) (cwV 1 htb (ht_gv wd_91 wd_92 wd_93 wd_8 g_B_half) rfl rfl rfl (by decide +kernel) ⟨Nat.le_of_ble_eq_true rfl, Nat.le_of_ble_eq_true rfl⟩) (HW.preV hla rfl _) rfl rfl hl.1 rfl (lv_room (Nat.le_of_ble_eq_true rfl)) d_X_prove_112 ⟨Nat.le_of_ble_eq_true rfl, Nat.le_of_ble_eq_true rfl⟩) (fun q10 u9 H locs ph HW => ?_)
                obtain ⟨eh, eww⟩ := ph
                subst eww
                subst eh
                refine W.eq (g2 := F0 m 115 ls [.ref (ht_ch zo (!(ht_bit k (ht_rl (N a))))), .int (nI (ht_rl (N a))), .ref (X 0)]) rfl ?_
                have hoF := (hT.half haF hp (!(ht_bit k (ht_rl (N a))))).1
                have hoc := (hN _ hoF).1
                refine ht_ngt hx hb htb hown HW hoc 2 (by decide) (htb _ wd_137) (fun _ h9 => h9) (v := .ref (A (ht_ch zo (!(ht_bit k (ht_rl (N a)))))).2.1) rfl d_X_prove_115 ?_
                refine ht_cv HW (va_runV (own := R_X) (C := R_X) (As := [.int (nI (ht_rl (N a))), .ref (A (ht_ch zo (!(ht_bit k (ht_rl (N a)))))).2.1]) (rest := []) ⟨hx, hb, hml, hown, htb⟩ (c_X_keepSibling l g u hX hSb (hN (ht_ch zo (!(ht_bit k (ht_rl (N a))))) hoF).2.2.1 (ht_rl (N a)) h256 _ rfl) (cwV 2 htb (ht_gv wd_274 wd_276 sl_9 wd_1 g_X_keepSibling) rfl rfl rfl (by decide +kernel) ⟨Nat.le_of_ble_eq_true rfl, Nat.le_of_ble_eq_true rfl⟩) (HW.preV hX rfl _) rfl rfl hl.1 rfl (lv_room (Nat.le_of_ble_eq_true rfl)) d_X_prove_118 ⟨Nat.le_of_ble_eq_true rfl, Nat.le_of_ble_eq_true rfl⟩) (fun u11 H locs pk HW => ?_)
                have hR2 := hRi.sb (f := va_cpy (ht_kf (ht_rh (N (ht_ch zo (!(ht_bit k (ht_rl (N a)))))))) f 0 (ht_rl (N a) * 4) 4)
                rw [← pk] at hR2
                obtain ⟨hX2, -, -, -, -, -, -, hN2, -⟩ := id hR2
                unfold ht_xo at hX2
                have hla2 := hN2.br haF hp
                refine lv_aload hx hb d_X_prove_121 (lv_at hl 1 rfl) ?_
                refine ht_get (C := R_B) (T := F_B) (N := 6) (v := .int (nI (ht_rl (N a)))) hx hb htb i_B hown HW hla2 rfl 1 (by decide) (htb _ wd_133) (fun x h9 => u_same (htb _ wd_134) x h9) rfl d_X_prove_123 ?_
                refine lv_iconst (v := 1) hx hb d_X_prove_126 (by decide) ?_
                refine lv_iadd hx hb d_X_prove_127 ?_
                refine lv_topi (fun lv2 elv2 => ?_)
                refine lv_istore_n (lv' := [(3, .int lv2), (6, .int qb), (5, .ref a), (0, .ref (X 0)), (1, .ref b), (2, .int pv), (4, .ref a)]) hx hb d_X_prove_128 rfl hl (by decide) rfl (fun ls hl => ?_)
                refine lv_aload hx hb d_X_prove_129 (lv_at hl 2 rfl) ?_
                refine lv_iload hx hb d_X_prove_131 (lv_at hl 1 rfl) ?_
                rw [eqb]
                refine ht_cq HW (va_runV (own := R_X) (C := R_B) (As := [.int (ht_b1 (ht_bit k (ht_rl (N a))))]) (rest := []) ⟨hx, hb, hml, hown, htb⟩ (c_B_half l g u11 hla2 (ht_bit k (ht_rl (N a)))) (cwV 1 htb (ht_gv wd_91 wd_92 wd_93 wd_8 g_B_half) rfl rfl rfl (by decide +kernel) ⟨Nat.le_of_ble_eq_true rfl, Nat.le_of_ble_eq_true rfl⟩) (HW.preV hla2 rfl _) rfl rfl hl.1 rfl (lv_room (Nat.le_of_ble_eq_true rfl)) d_X_prove_133 ⟨Nat.le_of_ble_eq_true rfl, Nat.le_of_ble_eq_true rfl⟩) (fun q13 u12 H locs ph HW => ?_)
                obtain ⟨eh, eww⟩ := ph
                subst eww
                subst eh
                refine W.eq (g2 := F0 m 136 ls [.ref (ht_ch zo (ht_bit k (ht_rl (N a))))]) rfl ?_
                refine lv_astore (lv' := [(4, .ref (ht_ch zo (ht_bit k (ht_rl (N a))))), (3, .int lv2), (6, .int qb), (5, .ref a), (0, .ref (X 0)), (1, .ref b), (2, .int pv)]) hx hb d_X_prove_136 hl (by decide) rfl (fun ls hl => ?_)
                refine lv_goto (tgt := 56) hx hb d_X_prove_138 (by decide) ?_
                exact ih _ (ht_rl (N a) + 1) _ u11 hR2 (by rw [pk]; exact hfri.trans (ht_fr.up (S := fun b => (tg b).1 ≠ 0) (by rw [htg.1 6 (by decide)]; decide))) (hpi.step hT hbL hp hplt ((hF.2 a haF zo hp (!(ht_bit k (ht_rl (N a))))).1 ((hF.2 a haF zo hp (!(ht_bit k (ht_rl (N a))))).2 hfra)) ht_cpr) ((hF.2 a haF zo hp (ht_bit k (ht_rl (N a)))).2 hfra) (by have := (hT.half haF hp (ht_bit k (ht_rl (N a)))).2.2.1; omega) _ _ _ lv2 (by rw [elv2, nI_1]) HW (lv_sub hl [4, 5, 6, 1, 0] rfl)
  refine lv_aload_n hx hb d_X_prove_0 rfl (lv_at hl 0 rfl) ?_
  refine ht_get (C := R_X) (T := F_X) (N := 9) (v := .ref (X 6)) hx hb htb i_X hown HW hX rfl 5 (by decide) (htb _ wd_45) (fun _ h9 => h9) rfl d_X_prove_1 ?_
  refine lv_lconst (v := 0) hx hb d_X_prove_4 (by decide) ?_
  refine ht_cv HW (va_runS (own := R_X) (As := [.ref (X 6), .long 0]) (rest := []) ⟨hx, hb, hml, hown, htb⟩ (c_JA_fill l g w hSb (by decide) 0) (va_cwS 2 htb (ht_gs wd_271 wd_272 wd_11 g_JA_fill) rfl rfl rfl (by decide +kernel) ⟨Nat.le_of_ble_eq_true rfl, Nat.le_of_ble_eq_true rfl⟩) (HW.preS _) rfl rfl hl.1 rfl (lv_room (Nat.le_of_ble_eq_true rfl)) d_X_prove_5 ⟨Nat.le_of_ble_eq_true rfl, Nat.le_of_ble_eq_true rfl⟩) (fun u1 H locs pf HW => ?_)
  obtain ⟨f2, hf2, pf⟩ := pf
  have hR1 := hR.sb (f := f2)
  rw [← pf] at hR1
  obtain ⟨hX, hK, hDg, hOp, hSb, hLs, hEn, hN, hT, hF, htg, hlen⟩ := id hR1
  unfold ht_xo at hX
  refine lv_aload_n hx hb d_X_prove_8 rfl (lv_at hl 0 rfl) ?_
  refine ht_get (C := R_X) (T := F_X) (N := 9) (v := .ref (X 8)) hx hb htb i_X hown HW hX rfl 7 (by decide) (htb _ wd_47) (fun _ h9 => h9) rfl d_X_prove_9 ?_
  refine lv_lconst (v := 0) hx hb d_X_prove_12 (by decide) ?_
  refine ht_cv HW (va_runS (own := R_X) (As := [.ref (X 8), .long 0]) (rest := []) ⟨hx, hb, hml, hown, htb⟩ (c_JA_fill l g u1 hEn (by decide) 0) (va_cwS 2 htb (ht_gs wd_271 wd_272 wd_11 g_JA_fill) rfl rfl rfl (by decide +kernel) ⟨Nat.le_of_ble_eq_true rfl, Nat.le_of_ble_eq_true rfl⟩) (HW.preS _) rfl rfl hl.1 rfl (lv_room (Nat.le_of_ble_eq_true rfl)) d_X_prove_13 ⟨Nat.le_of_ble_eq_true rfl, Nat.le_of_ble_eq_true rfl⟩) (fun u2 H locs pe HW => ?_)
  obtain ⟨f3, hf3, pe⟩ := pe
  have hR2 := hR1.en (f := f3)
  rw [← pe] at hR2
  obtain ⟨hX, hK, hDg, hOp, hSb, hLs, hEn, hN, hT, hF, htg, hlen⟩ := id hR2
  unfold ht_xo at hX
  refine lv_aload_n hx hb d_X_prove_16 rfl (lv_at hl 0 rfl) ?_
  refine lv_iconst (v := 0) hx hb d_X_prove_17 (by decide) ?_
  refine ht_put (C := R_X) (T := F_X) (N := 9) (v := .int 0) (ty := .int) hx hb htb i_X t_X t_X_ok n_X hown HW hX rfl 8 (by decide) (htb _ wd_48) (fun _ h9 => h9) rfl (by decide +kernel) rfl rfl (Nat.le_of_ble_eq_true rfl) d_X_prove_18 (fun H locs HW => ?_)
  have n_X_1_X_0 : (X 1) ≠ (X 0) := (ht_ne hK hX (fun z => by cases z))
  have n_X_6_X_0 : (X 6) ≠ (X 0) := (ht_ne hSb hX (fun z => by cases z))
  have n_X_7_X_0 : (X 7) ≠ (X 0) := (ht_ne hLs hX (fun z => by cases z))
  have n_X_8_X_0 : (X 8) ≠ (X 0) := (ht_ne hEn hX (fun z => by cases z))
  obtain ⟨u3, hu3⟩ : ∃ zW : ht_W, zW = ht_up u2 (X 0) (.inr (0, [.ref (X 1), .ref (X 2), .ref (X 5), va_rf top, .int (nI L.length), .ref (X 6), .ref (X 7), .ref (X 8), .int 0]) : va_E) := ⟨_, rfl⟩
  have HW : ht_I g s u3 H locs := by rw [hu3]; exact HW
  have hX : ht_at u3 (X 0) (.inr (0, [.ref (X 1), .ref (X 2), .ref (X 5), va_rf top, .int (nI L.length), .ref (X 6), .ref (X 7), .ref (X 8), .int 0]) : va_E) := by rw [hu3]; exact ht_at_self hX
  have hK : ht_at u3 (X 1) (ht_al g 4 (ht_kf k)) := by rw [hu3]; exact ht_at_ne hK n_X_1_X_0
  have hSb : ht_at u3 (X 6) (ht_al g 1024 f2) := by rw [hu3]; exact ht_at_ne hSb n_X_6_X_0
  have hLs : ht_at u3 (X 7) (ht_al g 4 lsf) := by rw [hu3]; exact ht_at_ne hLs n_X_7_X_0
  have hEn : ht_at u3 (X 8) (ht_al g 8 f3) := by rw [hu3]; exact ht_at_ne hEn n_X_8_X_0
  have hR3 := hR2.ei (x := 0)
  unfold ht_xo at hR3
  rw [← hu3] at hR3
  have hfr3 : ht_fr (fun b => (tg b).1 ≠ 0) w u3 := by rw [hu3, pe, pf]; exact ((ht_fr.up (S := fun b => (tg b).1 ≠ 0) (by rw [htg.1 6 (by decide)]; decide)).trans (ht_fr.up (S := fun b => (tg b).1 ≠ 0) (by rw [htg.1 8 (by decide)]; decide))).trans (ht_fr.up (S := fun b => (tg b).1 ≠ 0) (by rw [htg.1 0 (by decide)]; decide))
  obtain ⟨hX, hK, hDg, hOp, hSb, hLs, hEn, hN, hT, hF, htg, hlen⟩ := id hR3
  unfold ht_xo at hX
  refine lv_aload_n hx hb d_X_prove_21 rfl (lv_at hl 0 rfl) ?_
  refine ht_cq HW (va_runV (own := R_X) (C := R_X) (As := []) (rest := []) ⟨hx, hb, hml, hown, htb⟩ (c_X_nearestLeaf l g u3 hX hK hN hT) (cwV 0 htb (ht_gv wd_83 wd_85 sl_1 wd_1 g_X_nearestLeaf) rfl rfl rfl (by decide +kernel) ⟨Nat.le_of_ble_eq_true rfl, Nat.le_of_ble_eq_true rfl⟩) (HW.preV hX rfl _) rfl rfl hl.1 rfl (lv_room (Nat.le_of_ble_eq_true rfl)) d_X_prove_22 ⟨Nat.le_of_ble_eq_true rfl, Nat.le_of_ble_eq_true rfl⟩) (fun q5 u4 H locs pn HW => ?_)
  obtain ⟨pn, eww⟩ := pn
  subst eww
  rcases pn with ⟨er, et⟩ | ⟨b, vb, er, hbF, hpb, hbest⟩
  · have HW9 := HW
    subst er
    subst et
    have HW := HW9
    refine W.eq (g2 := F0 _ 25 ls [.null]) rfl ?_
    refine lv_astore_nN (lv' := [(1, .null), (0, .ref (X 0))]) hx hb d_X_prove_25 rfl hl (by decide) rfl (fun ls hl => ?_)
    refine lv_aload_nN hx hb d_X_prove_26 rfl (lv_at hl 0 rfl) ?_
    refine lv_ifnonnullN hx hb d_X_prove_27 ?_
    refine lv_iconst (v := 0) hx hb d_X_prove_30 (by decide) ?_
    exact ht_iret hx hb hr hlocks HW ⟨N, dt, opf, f2, lsf, f3, 0, 0, hR3, hfr3, by rw [(hT.2.2.1.2 rfl).2]; exact ht_pv_nil hf2 hf3, rfl⟩ d_X_prove_31
  · have HW9 := HW
    subst er
    refine W.eq (g2 := F0 _ 25 ls [.ref b]) rfl ?_
    obtain ⟨t, rfl⟩ : ∃ t, top = some t := by
      cases top with
      | none => rw [(hT.2.2.1.2 rfl).1] at hbF; cases hbF
      | some t => exact ⟨t, rfl⟩
    have HW := HW9
    refine lv_astore_n (lv' := [(1, .ref b), (0, .ref (X 0))]) hx hb d_X_prove_25 rfl hl (by decide) rfl (fun ls hl => ?_)
    refine lv_aload_n hx hb d_X_prove_26 rfl (lv_at hl 0 rfl) ?_
    refine lv_ifnonnull (tgt := 32) hx hb d_X_prove_27 (by decide) ?_
    refine lv_aload_n hx hb d_X_prove_32 rfl (lv_at hl 1 rfl) ?_
    refine ht_cv HW (va_runV (own := R_X) (C := R_X) (As := []) (rest := []) ⟨hx, hb, hml, hown, htb⟩ (c_X_refresh l g u3 hR3 hcap) (cwV 0 htb (ht_gv wd_209 wd_211 sl_5 wd_1 g_X_refresh) rfl rfl rfl (by decide +kernel) ⟨Nat.le_of_ble_eq_true rfl, Nat.le_of_ble_eq_true rfl⟩) (HW.preV hX rfl _) rfl rfl hl.1 rfl (lv_room (Nat.le_of_ble_eq_true rfl)) d_X_prove_33 ⟨Nat.le_of_ble_eq_true rfl, Nat.le_of_ble_eq_true rfl⟩) (fun u6 H locs pr HW => ?_)
    obtain ⟨N1, dt1, opf1, hR4, hfr4, hfre, hsm⟩ := pr
    have hpb1 : ht_rp (N1 b) = .inl vb := by rw [(hsm b).2.2]; exact hpb
    have hmax : ∀ q ∈ L, ht_part k q.1 ≤ ht_part k (ht_rk (N1 b)) := by rw [(hsm b).1]; exact hbest
    obtain ⟨hX, hK, hDg, hOp, hSb, hLs, hEn, hN, hT, hF, htg, hlen⟩ := id hR4
    unfold ht_xo at hX
    have hbL := hN.lf hbF hpb1
    have hbK := (hN b hbF).2.1
    refine lv_aload_n hx hb d_X_prove_36 rfl (lv_at hl 1 rfl) ?_
    refine ht_get (C := R_X) (T := F_X) (N := 9) (v := .ref (X 1)) hx hb htb i_X hown HW hX rfl 0 (by decide) (htb _ wd_40) (fun _ h9 => h9) rfl d_X_prove_37 ?_
    refine lv_aload_n hx hb d_X_prove_40 rfl (lv_at hl 0 rfl) ?_
    refine ht_get (C := R_L) (T := F_L) (N := 5) (v := .ref (A b).1) hx hb htb i_L hown HW hbL rfl 0 (by decide) (htb _ wd_128) (fun x h9 => u_same (htb _ wd_129) x h9) rfl d_X_prove_41 ?_
    refine ht_ci HW (va_runS (own := R_X) (As := [.ref (X 1), .ref (A b).1]) (rest := []) ⟨hx, hb, hml, hown, htb⟩ (c_X_partingLevel l g u6 hK hbK) (va_cwS 2 htb (ht_gs wd_96 wd_97 wd_1 g_X_partingLevel) rfl rfl rfl (by decide +kernel) ⟨Nat.le_of_ble_eq_true rfl, Nat.le_of_ble_eq_true rfl⟩) (HW.preS _) rfl rfl hl.1 rfl (lv_room (Nat.le_of_ble_eq_true rfl)) d_X_prove_44 ⟨Nat.le_of_ble_eq_true rfl, Nat.le_of_ble_eq_true rfl⟩) (fun pv u7 H locs pu7 HW => ?_)
    obtain ⟨epv, eu7⟩ := pu7
    subst eu7
    refine lv_istore_n (lv' := [(2, .int pv), (1, .ref b), (0, .ref (X 0))]) hx hb d_X_prove_47 rfl hl (by decide) rfl (fun ls hl => ?_)
    refine lv_iconst (v := 0) hx hb d_X_prove_48 (by decide) ?_
    refine lv_istore_n (lv' := [(3, .int 0), (2, .int pv), (1, .ref b), (0, .ref (X 0))]) hx hb d_X_prove_49 rfl hl (by decide) rfl (fun ls hl => ?_)
    refine lv_aload_n hx hb d_X_prove_50 rfl (lv_at hl 3 rfl) ?_
    refine ht_get (C := R_X) (T := F_X) (N := 9) (v := .ref t) hx hb htb i_X hown HW hX rfl 3 (by decide) (htb _ wd_43) (fun _ h9 => h9) rfl d_X_prove_51 ?_
    refine lv_astore (lv' := [(4, .ref t), (3, .int 0), (2, .int pv), (1, .ref b), (0, .ref (X 0))]) hx hb d_X_prove_54 hl (by decide) rfl (fun ls hl => ?_)
    exact loop N1 dt1 opf1 f3 b vb pv hbF hpb1 (hT.2.2.2.1 b hbF vb hpb1).2 hmax hf3 epv 256 t 0 f2 u6 hR4 (hfr3.trans hfr4) (ht_pi.start hT (hT.2.2.2.1 b hbF vb hpb1).2 hf2) (hfre t rfl) (by omega) _ _ _ 0 rfl HW (lv_sub hl [4, 3, 2, 1, 0] rfl)
end
section
def ht_X9 (a0 a1 a2 a3 a4 a5 a6 a7 a8 : Nat) : Nat → Nat := fun i => ([a0, a1, a2, a3, a4, a5, a6, a7, a8] : List Nat).getD i 0
set_option maxHeartbeats 4000000 in
theorem ht_X9i {a0 a1 a2 a3 a4 a5 a6 a7 a8 : Nat} (n01 : a0 ≠ a1) (n02 : a0 ≠ a2) (n03 : a0 ≠ a3) (n04 : a0 ≠ a4) (n05 : a0 ≠ a5) (n06 : a0 ≠ a6) (n07 : a0 ≠ a7) (n08 : a0 ≠ a8) (n12 : a1 ≠ a2) (n13 : a1 ≠ a3) (n14 : a1 ≠ a4) (n15 : a1 ≠ a5) (n16 : a1 ≠ a6) (n17 : a1 ≠ a7) (n18 : a1 ≠ a8) (n23 : a2 ≠ a3) (n24 : a2 ≠ a4) (n25 : a2 ≠ a5) (n26 : a2 ≠ a6) (n27 : a2 ≠ a7) (n28 : a2 ≠ a8) (n34 : a3 ≠ a4) (n35 : a3 ≠ a5) (n36 : a3 ≠ a6) (n37 : a3 ≠ a7) (n38 : a3 ≠ a8) (n45 : a4 ≠ a5) (n46 : a4 ≠ a6) (n47 : a4 ≠ a7) (n48 : a4 ≠ a8) (n56 : a5 ≠ a6) (n57 : a5 ≠ a7) (n58 : a5 ≠ a8) (n67 : a6 ≠ a7) (n68 : a6 ≠ a8) (n78 : a7 ≠ a8) : ∀ i j, i < 9 → j < 9 → ht_X9 a0 a1 a2 a3 a4 a5 a6 a7 a8 i = ht_X9 a0 a1 a2 a3 a4 a5 a6 a7 a8 j → i = j := by
  intro i j hi hj h
  rcases (show i = 0 ∨ i = 1 ∨ i = 2 ∨ i = 3 ∨ i = 4 ∨ i = 5 ∨ i = 6 ∨ i = 7 ∨ i = 8 by omega) with rfl | rfl | rfl | rfl | rfl | rfl | rfl | rfl | rfl <;> rcases (show j = 0 ∨ j = 1 ∨ j = 2 ∨ j = 3 ∨ j = 4 ∨ j = 5 ∨ j = 6 ∨ j = 7 ∨ j = 8 by omega) with rfl | rfl | rfl | rfl | rfl | rfl | rfl | rfl | rfl <;> first | rfl | exact absurd h n01 | exact absurd h.symm n01 | exact absurd h n02 | exact absurd h.symm n02 | exact absurd h n03 | exact absurd h.symm n03 | exact absurd h n04 | exact absurd h.symm n04 | exact absurd h n05 | exact absurd h.symm n05 | exact absurd h n06 | exact absurd h.symm n06 | exact absurd h n07 | exact absurd h.symm n07 | exact absurd h n08 | exact absurd h.symm n08 | exact absurd h n12 | exact absurd h.symm n12 | exact absurd h n13 | exact absurd h.symm n13 | exact absurd h n14 | exact absurd h.symm n14 | exact absurd h n15 | exact absurd h.symm n15 | exact absurd h n16 | exact absurd h.symm n16 | exact absurd h n17 | exact absurd h.symm n17 | exact absurd h n18 | exact absurd h.symm n18 | exact absurd h n23 | exact absurd h.symm n23 | exact absurd h n24 | exact absurd h.symm n24 | exact absurd h n25 | exact absurd h.symm n25 | exact absurd h n26 | exact absurd h.symm n26 | exact absurd h n27 | exact absurd h.symm n27 | exact absurd h n28 | exact absurd h.symm n28 | exact absurd h n34 | exact absurd h.symm n34 | exact absurd h n35 | exact absurd h.symm n35 | exact absurd h n36 | exact absurd h.symm n36 | exact absurd h n37 | exact absurd h.symm n37 | exact absurd h n38 | exact absurd h.symm n38 | exact absurd h n45 | exact absurd h.symm n45 | exact absurd h n46 | exact absurd h.symm n46 | exact absurd h n47 | exact absurd h.symm n47 | exact absurd h n48 | exact absurd h.symm n48 | exact absurd h n56 | exact absurd h.symm n56 | exact absurd h n57 | exact absurd h.symm n57 | exact absurd h n58 | exact absurd h.symm n58 | exact absurd h n67 | exact absurd h.symm n67 | exact absurd h n68 | exact absurd h.symm n68 | exact absurd h n78 | exact absurd h.symm n78
set_option maxHeartbeats 4000000 in
set_option maxRecDepth 100000 in
theorem c_X_init (l : Launch) (g : ht_G) (w : ht_W) {o : Nat} (hO : ht_at w o (.inr (0, [.null, .null, .null, .null, .int 0, .null, .null, .null, .int 0]) : va_E)) : Met l y_X_init ws_X_init ({ frames := 2, cells := 8, slots := 1372, locals := 60 } : Room) (va_Pc [.ref o] (ht_WS g w)) (ht_Qv g (fun u => ∃ X : Nat → Nat, X 0 = o ∧ (∀ i, 1 ≤ i → i < 9 → X i ∉ w.1) ∧ (∀ i j, i < 9 → j < 9 → X i = X j → i = j) ∧ ht_at u (X 0) (ht_xo X none 0 (-1)) ∧ ht_at u (X 1) (ht_al g 4 (fun _ => 0)) ∧ ht_Dg g u (X 2) (X 3) (X 4) ((fun _ => 0), (fun _ => 0), 0) ∧ ht_at u (X 5) (ht_aq g 257 (fun _ => none)) ∧ ht_at u (X 6) (ht_al g 1024 (fun _ => 0)) ∧ ht_at u (X 7) (ht_al g 4 (fun _ => 0)) ∧ ht_at u (X 8) (ht_al g 8 (fun _ => 0)) ∧ ht_fr (fun b => b = o) w u)) 8 1372 (ht_A g) := by
  refine Met.ofW (cc := b_X_init) (maxL := 1) (ret := none) (by decide) rfl ?_
  intro p e s m args below meth c s₁ BB hml hv
  obtain ⟨rfl, HW⟩ := hv
  have HW := ht_I.start HW
  have hx := BB.exec
  have hb := BB.bytes
  have hr := BB.returns
  have hts := atoms_spec (ws := ws_X_init) BB.pre
  have htb : ∀ w ∈ bg, w.before _ s = true := fun w h => hts w (List.mem_cons_of_mem _ h)
  have hown : s.vm.findClass R_X = some m.cls := findClass_of_methodNamed BB.named
  have hlocks := BB.notSynchronized
  have hin : meth.name = "<init>" := (name_of_methodNamed BB.named BB.method).1
  have hl := lv_entry ([.ref o]) (n := 1) (Nat.le_of_ble_eq_true rfl)
  rw [lg_entry_eq]
  generalize (lg_sl ([.ref o]) ++ List.replicate (1 - (lg_sl ([.ref o])).length) Slot.unset).toArray = ls at hl ⊢
  have hl : lv_has ls 1 [(0, .ref o)] := hl
  have hfr : ht_fr (fun b => b = o) w w := ht_fr.rf
  refine lv_aload_n hx hb d_X_init_0 rfl (lv_at hl 0 rfl) ?_
  refine W.objInit hx hb hown (htb _ wd_17) (htb _ wd_18) (htb _ wc_objectInit) rfl (by rw [hml]; exact hl.1) rfl d_X_init_1 (Nat.le_of_ble_eq_true rfl) (Nat.le_of_ble_eq_true rfl) ?_
  refine W.eq (g2 := F0 m 4 ls []) rfl ?_
  refine lv_aload_n hx hb d_X_init_4 rfl (lv_at hl 0 rfl) ?_
  refine lv_iconst (v := 4) hx hb d_X_init_5 (by decide) ?_
  refine ht_newl (N' := 4) hx hb (htb _ wd_36) HW (by decide) rfl (by decide) (Nat.le_of_ble_eq_true rfl) (Nat.le_of_ble_eq_true rfl) rfl d_X_init_6 (fun q1 H hq_q1 HW => ?_)
  have hq0_q1 : q1 ∉ w.1 := fun z9 => hq_q1 (hfr q1 z9 (fun e9 => hq_q1 (by rw [e9]; exact hO.1))).1
  obtain ⟨u1, hu1⟩ : ∃ zW : ht_W, zW = ht_nw w q1 (ht_al g 4 (fun _ => 0)) := ⟨_, rfl⟩
  have HW := HW.to hu1.symm
  have n_o_q1 : o ≠ q1 := fun z9 => hq_q1 (by rw [← z9]; exact hO.1)
  have hO : ht_at u1 o (.inr (0, [.null, .null, .null, .null, .int 0, .null, .null, .null, .int 0]) : va_E) := by rw [hu1]; exact ht_at_old hO hq_q1
  have h_q1 : ht_at u1 q1 (ht_al g 4 (fun _ => 0)) := by rw [hu1]; exact ht_at_new
  have hfr : ht_fr (fun b => b = o) w u1 := by rw [hu1]; exact hfr.trans (ht_fr.nw hq_q1)
  refine ht_putF (C := R_X) (T := F_X) (N := 9) (v := .ref q1) (ty := .array .long) hx hb htb i_X t_X t_X_ok n_X hown HW hO rfl 0 (by decide) (htb _ wd_40) (fun _ h9 => h9) rfl hin rfl (by decide +kernel) rfl rfl (Nat.le_of_ble_eq_true rfl) d_X_init_8 (fun H locs HW => ?_)
  have n_q1_o : q1 ≠ o := (Ne.symm n_o_q1)
  obtain ⟨u2, hu2⟩ : ∃ zW : ht_W, zW = ht_up u1 o (.inr (0, [.ref q1, .null, .null, .null, .int 0, .null, .null, .null, .int 0]) : va_E) := ⟨_, rfl⟩
  have HW : ht_I g s u2 H locs := by rw [hu2]; exact HW
  have hO : ht_at u2 o (.inr (0, [.ref q1, .null, .null, .null, .int 0, .null, .null, .null, .int 0]) : va_E) := by rw [hu2]; exact ht_at_self hO
  have h_q1 : ht_at u2 q1 (ht_al g 4 (fun _ => 0)) := by rw [hu2]; exact ht_at_ne h_q1 n_q1_o
  have hfr : ht_fr (fun b => b = o) w u2 := by rw [hu2]; exact hfr.trans (ht_fr.up rfl)
  refine lv_aload_n hx hb d_X_init_11 rfl (lv_at hl 0 rfl) ?_
  refine ht_new (C := R_D) (T := F_D) (N := 3) (ci := 1) (fs := [.null, .null, .int 0]) hx hb htb i_D t_D t_D_ok hown (htb _ wd_20) (htb _ wd_21) (htb _ wd_2) HW rfl (fun j hj => by rcases (show j = 0 ∨ j = 1 ∨ j = 2 by omega) with rfl | rfl | rfl <;> rfl) (Nat.le_of_ble_eq_true rfl) (Nat.le_of_ble_eq_true rfl) d_X_init_12 (fun qd H hq_qd HW => ?_)
  have hq0_qd : qd ∉ w.1 := fun z9 => hq_qd (hfr qd z9 (fun e9 => hq_qd (by rw [e9]; exact hO.1))).1
  obtain ⟨u3, hu3⟩ : ∃ zW : ht_W, zW = ht_nw u2 qd (.inr (1, [.null, .null, .int 0]) : va_E) := ⟨_, rfl⟩
  have HW := HW.to hu3.symm
  have n_o_qd : o ≠ qd := fun z9 => hq_qd (by rw [← z9]; exact hO.1)
  have n_q1_qd : q1 ≠ qd := fun z9 => hq_qd (by rw [← z9]; exact h_q1.1)
  have hO : ht_at u3 o (.inr (0, [.ref q1, .null, .null, .null, .int 0, .null, .null, .null, .int 0]) : va_E) := by rw [hu3]; exact ht_at_old hO hq_qd
  have h_q1 : ht_at u3 q1 (ht_al g 4 (fun _ => 0)) := by rw [hu3]; exact ht_at_old h_q1 hq_qd
  have h_qd : ht_at u3 qd (.inr (1, [.null, .null, .int 0]) : va_E) := by rw [hu3]; exact ht_at_new
  have hfr : ht_fr (fun b => b = o) w u3 := by rw [hu3]; exact hfr.trans (ht_fr.nw hq_qd)
  refine lv_dup hx hb d_X_init_15 rfl ?_
  refine ht_cv HW (va_runIN (own := R_X) (As := []) (rest := [.ref qd, .ref o]) ⟨hx, hb, hml, hown, htb⟩ (c_D_init l g u3 h_qd) ⟨va_cnB 0 htb g_D_init rfl rfl rfl HW.2.2.1.2.2.2.2.2.2.2.2.2.2 (htb _ wd_2) (by decide +kernel) ⟨Nat.le_of_ble_eq_true rfl, Nat.le_of_ble_eq_true rfl⟩, rfl, htb _ wd_23⟩ (HW.preS _) rfl rfl hl.1 rfl (lv_room (Nat.le_of_ble_eq_true rfl)) d_X_init_16 ⟨Nat.le_of_ble_eq_true rfl, Nat.le_of_ble_eq_true rfl⟩) (fun u4 H locs pd HW => ?_)
  obtain ⟨wd, wa, hq_wd, hq_wa, nww, eu4⟩ := pd
  have hq0_wd : wd ∉ w.1 := fun z9 => hq_wd (hfr wd z9 (fun e9 => hq_wd (by rw [e9]; exact hO.1))).1
  have n_o_wd : o ≠ wd := fun z9 => hq_wd (by rw [← z9]; exact hO.1)
  have n_q1_wd : q1 ≠ wd := fun z9 => hq_wd (by rw [← z9]; exact h_q1.1)
  have n_qd_wd : qd ≠ wd := fun z9 => hq_wd (by rw [← z9]; exact h_qd.1)
  have hq0_wa : wa ∉ w.1 := fun z9 => hq_wa (hfr wa z9 (fun e9 => hq_wa (by rw [e9]; exact hO.1))).1
  have n_o_wa : o ≠ wa := fun z9 => hq_wa (by rw [← z9]; exact hO.1)
  have n_q1_wa : q1 ≠ wa := fun z9 => hq_wa (by rw [← z9]; exact h_q1.1)
  have n_qd_wa : qd ≠ wa := fun z9 => hq_wa (by rw [← z9]; exact h_qd.1)
  have hwa1 : wa ∉ (ht_nw u3 wd (ht_ai g 8 (fun _ => 0))).1 := fun z9 => (List.mem_append.mp z9).elim hq_wa (fun y9 => nww (List.mem_singleton.mp y9).symm)
  have hfr : ht_fr (fun b => b = o) w u4 := by
    rw [eu4]
    exact ((hfr.trans (ht_fr.nw hq_wd)).trans (ht_fr.nw hwa1)).upn hq0_qd
  have hO : ht_at u4 o (.inr (0, [.ref q1, .null, .null, .null, .int 0, .null, .null, .null, .int 0]) : va_E) := by rw [eu4]; exact ht_at_ne (ht_at_old (ht_at_old hO hq_wd) hwa1) n_o_qd
  have h_q1 : ht_at u4 q1 (ht_al g 4 (fun _ => 0)) := by rw [eu4]; exact ht_at_ne (ht_at_old (ht_at_old h_q1 hq_wd) hwa1) n_q1_qd
  have h_qd : ht_at u4 qd (.inr (1, [.ref wd, .ref wa, .int 0]) : va_E) := by rw [eu4]; exact ht_at_self (ht_at_old (ht_at_old h_qd hq_wd) hwa1)
  have h_wd : ht_at u4 wd (ht_ai g 8 (fun _ => 0)) := by rw [eu4]; exact ht_at_ne (ht_at_old ht_at_new hwa1) n_qd_wd.symm
  have h_wa : ht_at u4 wa (ht_ai g 64 (fun _ => 0)) := by rw [eu4]; exact ht_at_ne ht_at_new n_qd_wa.symm
  refine ht_putF (C := R_X) (T := F_X) (N := 9) (v := .ref qd) (ty := .object "HashTree$Digester") hx hb htb i_X t_X t_X_ok n_X hown HW hO rfl 1 (by decide) (htb _ wd_41) (fun _ h9 => h9) rfl hin rfl (by decide +kernel) rfl rfl (Nat.le_of_ble_eq_true rfl) d_X_init_19 (fun H locs HW => ?_)
  have n_qd_o : qd ≠ o := (Ne.symm n_o_qd)
  have n_wd_o : wd ≠ o := (Ne.symm n_o_wd)
  have n_wa_o : wa ≠ o := (Ne.symm n_o_wa)
  obtain ⟨u5, hu5⟩ : ∃ zW : ht_W, zW = ht_up u4 o (.inr (0, [.ref q1, .ref qd, .null, .null, .int 0, .null, .null, .null, .int 0]) : va_E) := ⟨_, rfl⟩
  have HW : ht_I g s u5 H locs := by rw [hu5]; exact HW
  have hO : ht_at u5 o (.inr (0, [.ref q1, .ref qd, .null, .null, .int 0, .null, .null, .null, .int 0]) : va_E) := by rw [hu5]; exact ht_at_self hO
  have h_q1 : ht_at u5 q1 (ht_al g 4 (fun _ => 0)) := by rw [hu5]; exact ht_at_ne h_q1 n_q1_o
  have h_qd : ht_at u5 qd (.inr (1, [.ref wd, .ref wa, .int 0]) : va_E) := by rw [hu5]; exact ht_at_ne h_qd n_qd_o
  have h_wd : ht_at u5 wd (ht_ai g 8 (fun _ => 0)) := by rw [hu5]; exact ht_at_ne h_wd n_wd_o
  have h_wa : ht_at u5 wa (ht_ai g 64 (fun _ => 0)) := by rw [hu5]; exact ht_at_ne h_wa n_wa_o
  have hfr : ht_fr (fun b => b = o) w u5 := by rw [hu5]; exact hfr.trans (ht_fr.up rfl)
  refine lv_aload_n hx hb d_X_init_22 rfl (lv_at hl 0 rfl) ?_
  refine lv_sipush (v := 257) hx hb d_X_init_23 (by decide) ?_
  refine ht_newq (N' := 257) hx hb hown (htb _ wd_38) HW (by decide) rfl (by decide) (Nat.le_of_ble_eq_true rfl) (Nat.le_of_ble_eq_true rfl) d_X_init_26 (fun q5 H hq_q5 HW => ?_)
  have hq0_q5 : q5 ∉ w.1 := fun z9 => hq_q5 (hfr q5 z9 (fun e9 => hq_q5 (by rw [e9]; exact hO.1))).1
  obtain ⟨u6, hu6⟩ : ∃ zW : ht_W, zW = ht_nw u5 q5 (ht_aq g 257 (fun _ => none)) := ⟨_, rfl⟩
  have HW := HW.to hu6.symm
  have n_o_q5 : o ≠ q5 := fun z9 => hq_q5 (by rw [← z9]; exact hO.1)
  have n_q1_q5 : q1 ≠ q5 := fun z9 => hq_q5 (by rw [← z9]; exact h_q1.1)
  have n_qd_q5 : qd ≠ q5 := fun z9 => hq_q5 (by rw [← z9]; exact h_qd.1)
  have n_wd_q5 : wd ≠ q5 := fun z9 => hq_q5 (by rw [← z9]; exact h_wd.1)
  have n_wa_q5 : wa ≠ q5 := fun z9 => hq_q5 (by rw [← z9]; exact h_wa.1)
  have hO : ht_at u6 o (.inr (0, [.ref q1, .ref qd, .null, .null, .int 0, .null, .null, .null, .int 0]) : va_E) := by rw [hu6]; exact ht_at_old hO hq_q5
  have h_q1 : ht_at u6 q1 (ht_al g 4 (fun _ => 0)) := by rw [hu6]; exact ht_at_old h_q1 hq_q5
  have h_qd : ht_at u6 qd (.inr (1, [.ref wd, .ref wa, .int 0]) : va_E) := by rw [hu6]; exact ht_at_old h_qd hq_q5
  have h_wd : ht_at u6 wd (ht_ai g 8 (fun _ => 0)) := by rw [hu6]; exact ht_at_old h_wd hq_q5
  have h_wa : ht_at u6 wa (ht_ai g 64 (fun _ => 0)) := by rw [hu6]; exact ht_at_old h_wa hq_q5
  have h_q5 : ht_at u6 q5 (ht_aq g 257 (fun _ => none)) := by rw [hu6]; exact ht_at_new
  have hfr : ht_fr (fun b => b = o) w u6 := by rw [hu6]; exact hfr.trans (ht_fr.nw hq_q5)
  refine ht_putF (C := R_X) (T := F_X) (N := 9) (v := .ref q5) (ty := .array (.object "HashTree$Node")) hx hb htb i_X t_X t_X_ok n_X hown HW hO rfl 2 (by decide) (htb _ wd_42) (fun _ h9 => h9) rfl hin rfl (by decide +kernel) rfl rfl (Nat.le_of_ble_eq_true rfl) d_X_init_29 (fun H locs HW => ?_)
  have n_q5_o : q5 ≠ o := (Ne.symm n_o_q5)
  obtain ⟨u7, hu7⟩ : ∃ zW : ht_W, zW = ht_up u6 o (.inr (0, [.ref q1, .ref qd, .ref q5, .null, .int 0, .null, .null, .null, .int 0]) : va_E) := ⟨_, rfl⟩
  have HW : ht_I g s u7 H locs := by rw [hu7]; exact HW
  have hO : ht_at u7 o (.inr (0, [.ref q1, .ref qd, .ref q5, .null, .int 0, .null, .null, .null, .int 0]) : va_E) := by rw [hu7]; exact ht_at_self hO
  have h_q1 : ht_at u7 q1 (ht_al g 4 (fun _ => 0)) := by rw [hu7]; exact ht_at_ne h_q1 n_q1_o
  have h_qd : ht_at u7 qd (.inr (1, [.ref wd, .ref wa, .int 0]) : va_E) := by rw [hu7]; exact ht_at_ne h_qd n_qd_o
  have h_wd : ht_at u7 wd (ht_ai g 8 (fun _ => 0)) := by rw [hu7]; exact ht_at_ne h_wd n_wd_o
  have h_wa : ht_at u7 wa (ht_ai g 64 (fun _ => 0)) := by rw [hu7]; exact ht_at_ne h_wa n_wa_o
  have h_q5 : ht_at u7 q5 (ht_aq g 257 (fun _ => none)) := by rw [hu7]; exact ht_at_ne h_q5 n_q5_o
  have hfr : ht_fr (fun b => b = o) w u7 := by rw [hu7]; exact hfr.trans (ht_fr.up rfl)
  refine lv_aload_n hx hb d_X_init_32 rfl (lv_at hl 0 rfl) ?_
  refine lv_null hx hb d_X_init_33 ?_
  refine ht_put (C := R_X) (T := F_X) (N := 9) (v := .null) (ty := .object "HashTree$Node") hx hb htb i_X t_X t_X_ok n_X hown HW hO rfl 3 (by decide) (htb _ wd_43) (fun _ h9 => h9) rfl (by decide +kernel) rfl rfl (Nat.le_of_ble_eq_true rfl) d_X_init_34 (fun H locs HW => ?_)
  obtain ⟨u8, hu8⟩ : ∃ zW : ht_W, zW = ht_up u7 o (.inr (0, [.ref q1, .ref qd, .ref q5, .null, .int 0, .null, .null, .null, .int 0]) : va_E) := ⟨_, rfl⟩
  have HW : ht_I g s u8 H locs := by rw [hu8]; exact HW
  have hO : ht_at u8 o (.inr (0, [.ref q1, .ref qd, .ref q5, .null, .int 0, .null, .null, .null, .int 0]) : va_E) := by rw [hu8]; exact ht_at_self hO
  have h_q1 : ht_at u8 q1 (ht_al g 4 (fun _ => 0)) := by rw [hu8]; exact ht_at_ne h_q1 n_q1_o
  have h_qd : ht_at u8 qd (.inr (1, [.ref wd, .ref wa, .int 0]) : va_E) := by rw [hu8]; exact ht_at_ne h_qd n_qd_o
  have h_wd : ht_at u8 wd (ht_ai g 8 (fun _ => 0)) := by rw [hu8]; exact ht_at_ne h_wd n_wd_o
  have h_wa : ht_at u8 wa (ht_ai g 64 (fun _ => 0)) := by rw [hu8]; exact ht_at_ne h_wa n_wa_o
  have h_q5 : ht_at u8 q5 (ht_aq g 257 (fun _ => none)) := by rw [hu8]; exact ht_at_ne h_q5 n_q5_o
  have hfr : ht_fr (fun b => b = o) w u8 := by rw [hu8]; exact hfr.trans (ht_fr.up rfl)
  refine lv_aload_n hx hb d_X_init_37 rfl (lv_at hl 0 rfl) ?_
  refine lv_iconst (v := 0) hx hb d_X_init_38 (by decide) ?_
  refine ht_put (C := R_X) (T := F_X) (N := 9) (v := .int 0) (ty := .int) hx hb htb i_X t_X t_X_ok n_X hown HW hO rfl 4 (by decide) (htb _ wd_44) (fun _ h9 => h9) rfl (by decide +kernel) rfl rfl (Nat.le_of_ble_eq_true rfl) d_X_init_39 (fun H locs HW => ?_)
  obtain ⟨u9, hu9⟩ : ∃ zW : ht_W, zW = ht_up u8 o (.inr (0, [.ref q1, .ref qd, .ref q5, .null, .int 0, .null, .null, .null, .int 0]) : va_E) := ⟨_, rfl⟩
  have HW : ht_I g s u9 H locs := by rw [hu9]; exact HW
  have hO : ht_at u9 o (.inr (0, [.ref q1, .ref qd, .ref q5, .null, .int 0, .null, .null, .null, .int 0]) : va_E) := by rw [hu9]; exact ht_at_self hO
  have h_q1 : ht_at u9 q1 (ht_al g 4 (fun _ => 0)) := by rw [hu9]; exact ht_at_ne h_q1 n_q1_o
  have h_qd : ht_at u9 qd (.inr (1, [.ref wd, .ref wa, .int 0]) : va_E) := by rw [hu9]; exact ht_at_ne h_qd n_qd_o
  have h_wd : ht_at u9 wd (ht_ai g 8 (fun _ => 0)) := by rw [hu9]; exact ht_at_ne h_wd n_wd_o
  have h_wa : ht_at u9 wa (ht_ai g 64 (fun _ => 0)) := by rw [hu9]; exact ht_at_ne h_wa n_wa_o
  have h_q5 : ht_at u9 q5 (ht_aq g 257 (fun _ => none)) := by rw [hu9]; exact ht_at_ne h_q5 n_q5_o
  have hfr : ht_fr (fun b => b = o) w u9 := by rw [hu9]; exact hfr.trans (ht_fr.up rfl)
  refine lv_aload_n hx hb d_X_init_42 rfl (lv_at hl 0 rfl) ?_
  refine lv_sipush (v := 1024) hx hb d_X_init_43 (by decide) ?_
  refine ht_newl (N' := 1024) hx hb (htb _ wd_36) HW (by decide) rfl (by decide) (Nat.le_of_ble_eq_true rfl) (Nat.le_of_ble_eq_true rfl) rfl d_X_init_46 (fun q6 H hq_q6 HW => ?_)
  have hq0_q6 : q6 ∉ w.1 := fun z9 => hq_q6 (hfr q6 z9 (fun e9 => hq_q6 (by rw [e9]; exact hO.1))).1
  obtain ⟨u10, hu10⟩ : ∃ zW : ht_W, zW = ht_nw u9 q6 (ht_al g 1024 (fun _ => 0)) := ⟨_, rfl⟩
  have HW := HW.to hu10.symm
  have n_o_q6 : o ≠ q6 := fun z9 => hq_q6 (by rw [← z9]; exact hO.1)
  have n_q1_q6 : q1 ≠ q6 := fun z9 => hq_q6 (by rw [← z9]; exact h_q1.1)
  have n_qd_q6 : qd ≠ q6 := fun z9 => hq_q6 (by rw [← z9]; exact h_qd.1)
  have n_wd_q6 : wd ≠ q6 := fun z9 => hq_q6 (by rw [← z9]; exact h_wd.1)
  have n_wa_q6 : wa ≠ q6 := fun z9 => hq_q6 (by rw [← z9]; exact h_wa.1)
  have n_q5_q6 : q5 ≠ q6 := fun z9 => hq_q6 (by rw [← z9]; exact h_q5.1)
  have hO : ht_at u10 o (.inr (0, [.ref q1, .ref qd, .ref q5, .null, .int 0, .null, .null, .null, .int 0]) : va_E) := by rw [hu10]; exact ht_at_old hO hq_q6
  have h_q1 : ht_at u10 q1 (ht_al g 4 (fun _ => 0)) := by rw [hu10]; exact ht_at_old h_q1 hq_q6
  have h_qd : ht_at u10 qd (.inr (1, [.ref wd, .ref wa, .int 0]) : va_E) := by rw [hu10]; exact ht_at_old h_qd hq_q6
  have h_wd : ht_at u10 wd (ht_ai g 8 (fun _ => 0)) := by rw [hu10]; exact ht_at_old h_wd hq_q6
  have h_wa : ht_at u10 wa (ht_ai g 64 (fun _ => 0)) := by rw [hu10]; exact ht_at_old h_wa hq_q6
  have h_q5 : ht_at u10 q5 (ht_aq g 257 (fun _ => none)) := by rw [hu10]; exact ht_at_old h_q5 hq_q6
  have h_q6 : ht_at u10 q6 (ht_al g 1024 (fun _ => 0)) := by rw [hu10]; exact ht_at_new
  have hfr : ht_fr (fun b => b = o) w u10 := by rw [hu10]; exact hfr.trans (ht_fr.nw hq_q6)
  refine ht_putF (C := R_X) (T := F_X) (N := 9) (v := .ref q6) (ty := .array .long) hx hb htb i_X t_X t_X_ok n_X hown HW hO rfl 5 (by decide) (htb _ wd_45) (fun _ h9 => h9) rfl hin rfl (by decide +kernel) rfl rfl (Nat.le_of_ble_eq_true rfl) d_X_init_48 (fun H locs HW => ?_)
  have n_q6_o : q6 ≠ o := (Ne.symm n_o_q6)
  obtain ⟨u11, hu11⟩ : ∃ zW : ht_W, zW = ht_up u10 o (.inr (0, [.ref q1, .ref qd, .ref q5, .null, .int 0, .ref q6, .null, .null, .int 0]) : va_E) := ⟨_, rfl⟩
  have HW : ht_I g s u11 H locs := by rw [hu11]; exact HW
  have hO : ht_at u11 o (.inr (0, [.ref q1, .ref qd, .ref q5, .null, .int 0, .ref q6, .null, .null, .int 0]) : va_E) := by rw [hu11]; exact ht_at_self hO
  have h_q1 : ht_at u11 q1 (ht_al g 4 (fun _ => 0)) := by rw [hu11]; exact ht_at_ne h_q1 n_q1_o
  have h_qd : ht_at u11 qd (.inr (1, [.ref wd, .ref wa, .int 0]) : va_E) := by rw [hu11]; exact ht_at_ne h_qd n_qd_o
  have h_wd : ht_at u11 wd (ht_ai g 8 (fun _ => 0)) := by rw [hu11]; exact ht_at_ne h_wd n_wd_o
  have h_wa : ht_at u11 wa (ht_ai g 64 (fun _ => 0)) := by rw [hu11]; exact ht_at_ne h_wa n_wa_o
  have h_q5 : ht_at u11 q5 (ht_aq g 257 (fun _ => none)) := by rw [hu11]; exact ht_at_ne h_q5 n_q5_o
  have h_q6 : ht_at u11 q6 (ht_al g 1024 (fun _ => 0)) := by rw [hu11]; exact ht_at_ne h_q6 n_q6_o
  have hfr : ht_fr (fun b => b = o) w u11 := by rw [hu11]; exact hfr.trans (ht_fr.up rfl)
  refine lv_aload_n hx hb d_X_init_51 rfl (lv_at hl 0 rfl) ?_
  refine lv_iconst (v := 4) hx hb d_X_init_52 (by decide) ?_
  refine ht_newl (N' := 4) hx hb (htb _ wd_36) HW (by decide) rfl (by decide) (Nat.le_of_ble_eq_true rfl) (Nat.le_of_ble_eq_true rfl) rfl d_X_init_53 (fun q7 H hq_q7 HW => ?_)
  have hq0_q7 : q7 ∉ w.1 := fun z9 => hq_q7 (hfr q7 z9 (fun e9 => hq_q7 (by rw [e9]; exact hO.1))).1
  obtain ⟨u12, hu12⟩ : ∃ zW : ht_W, zW = ht_nw u11 q7 (ht_al g 4 (fun _ => 0)) := ⟨_, rfl⟩
  have HW := HW.to hu12.symm
  have n_o_q7 : o ≠ q7 := fun z9 => hq_q7 (by rw [← z9]; exact hO.1)
  have n_q1_q7 : q1 ≠ q7 := fun z9 => hq_q7 (by rw [← z9]; exact h_q1.1)
  have n_qd_q7 : qd ≠ q7 := fun z9 => hq_q7 (by rw [← z9]; exact h_qd.1)
  have n_wd_q7 : wd ≠ q7 := fun z9 => hq_q7 (by rw [← z9]; exact h_wd.1)
  have n_wa_q7 : wa ≠ q7 := fun z9 => hq_q7 (by rw [← z9]; exact h_wa.1)
  have n_q5_q7 : q5 ≠ q7 := fun z9 => hq_q7 (by rw [← z9]; exact h_q5.1)
  have n_q6_q7 : q6 ≠ q7 := fun z9 => hq_q7 (by rw [← z9]; exact h_q6.1)
  have hO : ht_at u12 o (.inr (0, [.ref q1, .ref qd, .ref q5, .null, .int 0, .ref q6, .null, .null, .int 0]) : va_E) := by rw [hu12]; exact ht_at_old hO hq_q7
  have h_q1 : ht_at u12 q1 (ht_al g 4 (fun _ => 0)) := by rw [hu12]; exact ht_at_old h_q1 hq_q7
  have h_qd : ht_at u12 qd (.inr (1, [.ref wd, .ref wa, .int 0]) : va_E) := by rw [hu12]; exact ht_at_old h_qd hq_q7
  have h_wd : ht_at u12 wd (ht_ai g 8 (fun _ => 0)) := by rw [hu12]; exact ht_at_old h_wd hq_q7
  have h_wa : ht_at u12 wa (ht_ai g 64 (fun _ => 0)) := by rw [hu12]; exact ht_at_old h_wa hq_q7
  have h_q5 : ht_at u12 q5 (ht_aq g 257 (fun _ => none)) := by rw [hu12]; exact ht_at_old h_q5 hq_q7
  have h_q6 : ht_at u12 q6 (ht_al g 1024 (fun _ => 0)) := by rw [hu12]; exact ht_at_old h_q6 hq_q7
  have h_q7 : ht_at u12 q7 (ht_al g 4 (fun _ => 0)) := by rw [hu12]; exact ht_at_new
  have hfr : ht_fr (fun b => b = o) w u12 := by rw [hu12]; exact hfr.trans (ht_fr.nw hq_q7)
  refine ht_putF (C := R_X) (T := F_X) (N := 9) (v := .ref q7) (ty := .array .long) hx hb htb i_X t_X t_X_ok n_X hown HW hO rfl 6 (by decide) (htb _ wd_46) (fun _ h9 => h9) rfl hin rfl (by decide +kernel) rfl rfl (Nat.le_of_ble_eq_true rfl) d_X_init_55 (fun H locs HW => ?_)
  have n_q7_o : q7 ≠ o := (Ne.symm n_o_q7)
  obtain ⟨u13, hu13⟩ : ∃ zW : ht_W, zW = ht_up u12 o (.inr (0, [.ref q1, .ref qd, .ref q5, .null, .int 0, .ref q6, .ref q7, .null, .int 0]) : va_E) := ⟨_, rfl⟩
  have HW : ht_I g s u13 H locs := by rw [hu13]; exact HW
  have hO : ht_at u13 o (.inr (0, [.ref q1, .ref qd, .ref q5, .null, .int 0, .ref q6, .ref q7, .null, .int 0]) : va_E) := by rw [hu13]; exact ht_at_self hO
  have h_q1 : ht_at u13 q1 (ht_al g 4 (fun _ => 0)) := by rw [hu13]; exact ht_at_ne h_q1 n_q1_o
  have h_qd : ht_at u13 qd (.inr (1, [.ref wd, .ref wa, .int 0]) : va_E) := by rw [hu13]; exact ht_at_ne h_qd n_qd_o
  have h_wd : ht_at u13 wd (ht_ai g 8 (fun _ => 0)) := by rw [hu13]; exact ht_at_ne h_wd n_wd_o
  have h_wa : ht_at u13 wa (ht_ai g 64 (fun _ => 0)) := by rw [hu13]; exact ht_at_ne h_wa n_wa_o
  have h_q5 : ht_at u13 q5 (ht_aq g 257 (fun _ => none)) := by rw [hu13]; exact ht_at_ne h_q5 n_q5_o
  have h_q6 : ht_at u13 q6 (ht_al g 1024 (fun _ => 0)) := by rw [hu13]; exact ht_at_ne h_q6 n_q6_o
  have h_q7 : ht_at u13 q7 (ht_al g 4 (fun _ => 0)) := by rw [hu13]; exact ht_at_ne h_q7 n_q7_o
  have hfr : ht_fr (fun b => b = o) w u13 := by rw [hu13]; exact hfr.trans (ht_fr.up rfl)
  refine lv_aload_n hx hb d_X_init_58 rfl (lv_at hl 0 rfl) ?_
  refine lv_bipush (v := 8) hx hb d_X_init_59 (by decide) ?_
  refine ht_newl (N' := 8) hx hb (htb _ wd_36) HW (by decide) rfl (by decide) (Nat.le_of_ble_eq_true rfl) (Nat.le_of_ble_eq_true rfl) rfl d_X_init_61 (fun q8 H hq_q8 HW => ?_)
  have hq0_q8 : q8 ∉ w.1 := fun z9 => hq_q8 (hfr q8 z9 (fun e9 => hq_q8 (by rw [e9]; exact hO.1))).1
  obtain ⟨u14, hu14⟩ : ∃ zW : ht_W, zW = ht_nw u13 q8 (ht_al g 8 (fun _ => 0)) := ⟨_, rfl⟩
  have HW := HW.to hu14.symm
  have n_o_q8 : o ≠ q8 := fun z9 => hq_q8 (by rw [← z9]; exact hO.1)
  have n_q1_q8 : q1 ≠ q8 := fun z9 => hq_q8 (by rw [← z9]; exact h_q1.1)
  have n_qd_q8 : qd ≠ q8 := fun z9 => hq_q8 (by rw [← z9]; exact h_qd.1)
  have n_wd_q8 : wd ≠ q8 := fun z9 => hq_q8 (by rw [← z9]; exact h_wd.1)
  have n_wa_q8 : wa ≠ q8 := fun z9 => hq_q8 (by rw [← z9]; exact h_wa.1)
  have n_q5_q8 : q5 ≠ q8 := fun z9 => hq_q8 (by rw [← z9]; exact h_q5.1)
  have n_q6_q8 : q6 ≠ q8 := fun z9 => hq_q8 (by rw [← z9]; exact h_q6.1)
  have n_q7_q8 : q7 ≠ q8 := fun z9 => hq_q8 (by rw [← z9]; exact h_q7.1)
  have hO : ht_at u14 o (.inr (0, [.ref q1, .ref qd, .ref q5, .null, .int 0, .ref q6, .ref q7, .null, .int 0]) : va_E) := by rw [hu14]; exact ht_at_old hO hq_q8
  have h_q1 : ht_at u14 q1 (ht_al g 4 (fun _ => 0)) := by rw [hu14]; exact ht_at_old h_q1 hq_q8
  have h_qd : ht_at u14 qd (.inr (1, [.ref wd, .ref wa, .int 0]) : va_E) := by rw [hu14]; exact ht_at_old h_qd hq_q8
  have h_wd : ht_at u14 wd (ht_ai g 8 (fun _ => 0)) := by rw [hu14]; exact ht_at_old h_wd hq_q8
  have h_wa : ht_at u14 wa (ht_ai g 64 (fun _ => 0)) := by rw [hu14]; exact ht_at_old h_wa hq_q8
  have h_q5 : ht_at u14 q5 (ht_aq g 257 (fun _ => none)) := by rw [hu14]; exact ht_at_old h_q5 hq_q8
  have h_q6 : ht_at u14 q6 (ht_al g 1024 (fun _ => 0)) := by rw [hu14]; exact ht_at_old h_q6 hq_q8
  have h_q7 : ht_at u14 q7 (ht_al g 4 (fun _ => 0)) := by rw [hu14]; exact ht_at_old h_q7 hq_q8
  have h_q8 : ht_at u14 q8 (ht_al g 8 (fun _ => 0)) := by rw [hu14]; exact ht_at_new
  have hfr : ht_fr (fun b => b = o) w u14 := by rw [hu14]; exact hfr.trans (ht_fr.nw hq_q8)
  refine ht_putF (C := R_X) (T := F_X) (N := 9) (v := .ref q8) (ty := .array .long) hx hb htb i_X t_X t_X_ok n_X hown HW hO rfl 7 (by decide) (htb _ wd_47) (fun _ h9 => h9) rfl hin rfl (by decide +kernel) rfl rfl (Nat.le_of_ble_eq_true rfl) d_X_init_63 (fun H locs HW => ?_)
  have n_q8_o : q8 ≠ o := (Ne.symm n_o_q8)
  obtain ⟨u15, hu15⟩ : ∃ zW : ht_W, zW = ht_up u14 o (.inr (0, [.ref q1, .ref qd, .ref q5, .null, .int 0, .ref q6, .ref q7, .ref q8, .int 0]) : va_E) := ⟨_, rfl⟩
  have HW : ht_I g s u15 H locs := by rw [hu15]; exact HW
  have hO : ht_at u15 o (.inr (0, [.ref q1, .ref qd, .ref q5, .null, .int 0, .ref q6, .ref q7, .ref q8, .int 0]) : va_E) := by rw [hu15]; exact ht_at_self hO
  have h_q1 : ht_at u15 q1 (ht_al g 4 (fun _ => 0)) := by rw [hu15]; exact ht_at_ne h_q1 n_q1_o
  have h_qd : ht_at u15 qd (.inr (1, [.ref wd, .ref wa, .int 0]) : va_E) := by rw [hu15]; exact ht_at_ne h_qd n_qd_o
  have h_wd : ht_at u15 wd (ht_ai g 8 (fun _ => 0)) := by rw [hu15]; exact ht_at_ne h_wd n_wd_o
  have h_wa : ht_at u15 wa (ht_ai g 64 (fun _ => 0)) := by rw [hu15]; exact ht_at_ne h_wa n_wa_o
  have h_q5 : ht_at u15 q5 (ht_aq g 257 (fun _ => none)) := by rw [hu15]; exact ht_at_ne h_q5 n_q5_o
  have h_q6 : ht_at u15 q6 (ht_al g 1024 (fun _ => 0)) := by rw [hu15]; exact ht_at_ne h_q6 n_q6_o
  have h_q7 : ht_at u15 q7 (ht_al g 4 (fun _ => 0)) := by rw [hu15]; exact ht_at_ne h_q7 n_q7_o
  have h_q8 : ht_at u15 q8 (ht_al g 8 (fun _ => 0)) := by rw [hu15]; exact ht_at_ne h_q8 n_q8_o
  have hfr : ht_fr (fun b => b = o) w u15 := by rw [hu15]; exact hfr.trans (ht_fr.up rfl)
  refine lv_aload_n hx hb d_X_init_66 rfl (lv_at hl 0 rfl) ?_
  refine lv_iconst (v := -1) hx hb d_X_init_67 (by decide) ?_
  refine ht_put (C := R_X) (T := F_X) (N := 9) (v := .int (-1)) (ty := .int) hx hb htb i_X t_X t_X_ok n_X hown HW hO rfl 8 (by decide) (htb _ wd_48) (fun _ h9 => h9) rfl (by decide +kernel) rfl rfl (Nat.le_of_ble_eq_true rfl) d_X_init_68 (fun H locs HW => ?_)
  obtain ⟨u16, hu16⟩ : ∃ zW : ht_W, zW = ht_up u15 o (.inr (0, [.ref q1, .ref qd, .ref q5, .null, .int 0, .ref q6, .ref q7, .ref q8, .int (-1)]) : va_E) := ⟨_, rfl⟩
  have HW : ht_I g s u16 H locs := by rw [hu16]; exact HW
  have hO : ht_at u16 o (.inr (0, [.ref q1, .ref qd, .ref q5, .null, .int 0, .ref q6, .ref q7, .ref q8, .int (-1)]) : va_E) := by rw [hu16]; exact ht_at_self hO
  have h_q1 : ht_at u16 q1 (ht_al g 4 (fun _ => 0)) := by rw [hu16]; exact ht_at_ne h_q1 n_q1_o
  have h_qd : ht_at u16 qd (.inr (1, [.ref wd, .ref wa, .int 0]) : va_E) := by rw [hu16]; exact ht_at_ne h_qd n_qd_o
  have h_wd : ht_at u16 wd (ht_ai g 8 (fun _ => 0)) := by rw [hu16]; exact ht_at_ne h_wd n_wd_o
  have h_wa : ht_at u16 wa (ht_ai g 64 (fun _ => 0)) := by rw [hu16]; exact ht_at_ne h_wa n_wa_o
  have h_q5 : ht_at u16 q5 (ht_aq g 257 (fun _ => none)) := by rw [hu16]; exact ht_at_ne h_q5 n_q5_o
  have h_q6 : ht_at u16 q6 (ht_al g 1024 (fun _ => 0)) := by rw [hu16]; exact ht_at_ne h_q6 n_q6_o
  have h_q7 : ht_at u16 q7 (ht_al g 4 (fun _ => 0)) := by rw [hu16]; exact ht_at_ne h_q7 n_q7_o
  have h_q8 : ht_at u16 q8 (ht_al g 8 (fun _ => 0)) := by rw [hu16]; exact ht_at_ne h_q8 n_q8_o
  have hfr : ht_fr (fun b => b = o) w u16 := by rw [hu16]; exact hfr.trans (ht_fr.up rfl)
  exact ht_vret hx hb hr hlocks HW ⟨ht_X9 o q1 qd wd wa q5 q6 q7 q8, rfl, fun i h1 h9 => by rcases (show i = 1 ∨ i = 2 ∨ i = 3 ∨ i = 4 ∨ i = 5 ∨ i = 6 ∨ i = 7 ∨ i = 8 by omega) with rfl | rfl | rfl | rfl | rfl | rfl | rfl | rfl; exact hq0_q1; exact hq0_qd; exact hq0_wd; exact hq0_wa; exact hq0_q5; exact hq0_q6; exact hq0_q7; exact hq0_q8, ht_X9i n_o_q1 n_o_qd n_o_wd n_o_wa n_o_q5 n_o_q6 n_o_q7 n_o_q8 n_q1_qd n_q1_wd n_q1_wa n_q1_q5 n_q1_q6 n_q1_q7 n_q1_q8 n_qd_wd n_qd_wa n_qd_q5 n_qd_q6 n_qd_q7 n_qd_q8 nww n_wd_q5 n_wd_q6 n_wd_q7 n_wd_q8 n_wa_q5 n_wa_q6 n_wa_q7 n_wa_q8 n_q5_q6 n_q5_q7 n_q5_q8 n_q6_q7 n_q6_q8 n_q7_q8, hO, h_q1, ⟨h_qd, h_wd, h_wa⟩, h_q5, h_q6, h_q7, h_q8, hfr⟩ d_X_init_71
end
