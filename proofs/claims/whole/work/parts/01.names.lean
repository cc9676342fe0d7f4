-- ===== PART A: goes FIRST, ahead of the names: the tables' words, and 'selects' of the private methods out of them =====
/-- a private method of a class that the tables say can be made, by its rows of tables_1 -/
def lw_okq (q : MethodName × Nat) : Prop := (q.1.cls ≠ "java/lang/invoke/MethodHandle" ∧ q.1.cls ≠ "java/lang/invoke/VarHandle") ∧ Cond.instantiable q.1.cls q.2 ∈ tables_1 ∧ Cond.privateMethod q.1 ∈ tables_1 ∧ Cond.instanceMethod q.1 ∈ tables_1
theorem lw_p0 : lw_okq (⟨"HashTree", "leafOfKey", "()LHashTree$Leaf;"⟩, 9) := ⟨⟨by decide +kernel, by decide +kernel⟩, List.mem_of_getElem? (i := 13) (by decide +kernel), List.mem_of_getElem? (i := 80) (by decide +kernel), List.mem_of_getElem? (i := 81) (by decide +kernel)⟩
theorem lw_p1 : lw_okq (⟨"HashTree", "nearestLeaf", "()LHashTree$Leaf;"⟩, 9) := ⟨⟨by decide +kernel, by decide +kernel⟩, List.mem_of_getElem? (i := 13) (by decide +kernel), List.mem_of_getElem? (i := 84) (by decide +kernel), List.mem_of_getElem? (i := 85) (by decide +kernel)⟩
theorem lw_p2 : lw_okq (⟨"HashTree", "stalePath", "(I)LHashTree$Branch;"⟩, 9) := ⟨⟨by decide +kernel, by decide +kernel⟩, List.mem_of_getElem? (i := 13) (by decide +kernel), List.mem_of_getElem? (i := 107) (by decide +kernel), List.mem_of_getElem? (i := 108) (by decide +kernel)⟩
theorem lw_p3 : lw_okq (⟨"HashTree", "insert", "(LHashTree$Leaf;)V"⟩, 9) := ⟨⟨by decide +kernel, by decide +kernel⟩, List.mem_of_getElem? (i := 13) (by decide +kernel), List.mem_of_getElem? (i := 157) (by decide +kernel), List.mem_of_getElem? (i := 158) (by decide +kernel)⟩
theorem lw_p4 : lw_okq (⟨"HashTree", "hang", "(LHashTree$Branch;LHashTree$Node;)V"⟩, 9) := ⟨⟨by decide +kernel, by decide +kernel⟩, List.mem_of_getElem? (i := 13) (by decide +kernel), List.mem_of_getElem? (i := 179) (by decide +kernel), List.mem_of_getElem? (i := 180) (by decide +kernel)⟩
theorem lw_p5 : lw_okq (⟨"HashTree", "refresh", "()V"⟩, 9) := ⟨⟨by decide +kernel, by decide +kernel⟩, List.mem_of_getElem? (i := 13) (by decide +kernel), List.mem_of_getElem? (i := 210) (by decide +kernel), List.mem_of_getElem? (i := 211) (by decide +kernel)⟩
theorem lw_p6 : lw_okq (⟨"HashTree", "hashAt", "(LHashTree$Node;I[J)V"⟩, 9) := ⟨⟨by decide +kernel, by decide +kernel⟩, List.mem_of_getElem? (i := 13) (by decide +kernel), List.mem_of_getElem? (i := 218) (by decide +kernel), List.mem_of_getElem? (i := 219) (by decide +kernel)⟩
theorem lw_p7 : lw_okq (⟨"HashTree$Digester", "spread", "()V"⟩, 3) := ⟨⟨by decide +kernel, by decide +kernel⟩, List.mem_of_getElem? (i := 21) (by decide +kernel), List.mem_of_getElem? (i := 239) (by decide +kernel), List.mem_of_getElem? (i := 240) (by decide +kernel)⟩
theorem lw_p8 : lw_okq (⟨"HashTree$Digester", "mix", "()V"⟩, 3) := ⟨⟨by decide +kernel, by decide +kernel⟩, List.mem_of_getElem? (i := 21) (by decide +kernel), List.mem_of_getElem? (i := 246) (by decide +kernel), List.mem_of_getElem? (i := 247) (by decide +kernel)⟩
theorem lw_p9 : lw_okq (⟨"HashTree", "keepSibling", "(I[J)V"⟩, 9) := ⟨⟨by decide +kernel, by decide +kernel⟩, List.mem_of_getElem? (i := 13) (by decide +kernel), List.mem_of_getElem? (i := 275) (by decide +kernel), List.mem_of_getElem? (i := 276) (by decide +kernel)⟩
theorem lw_p10 : lw_okq (⟨"HashTree", "keepEnd", "(LHashTree$Leaf;)V"⟩, 9) := ⟨⟨by decide +kernel, by decide +kernel⟩, List.mem_of_getElem? (i := 13) (by decide +kernel), List.mem_of_getElem? (i := 280) (by decide +kernel), List.mem_of_getElem? (i := 281) (by decide +kernel)⟩
theorem lw_p11 : lw_okq (⟨"HashTreeModel", "place", "()I"⟩, 22) := ⟨⟨by decide +kernel, by decide +kernel⟩, List.mem_of_getElem? (i := 304) (by decide +kernel), List.mem_of_getElem? (i := 388) (by decide +kernel), List.mem_of_getElem? (i := 389) (by decide +kernel)⟩
theorem lw_p12 : lw_okq (⟨"HashTreeModel", "isAt", "(I)Z"⟩, 22) := ⟨⟨by decide +kernel, by decide +kernel⟩, List.mem_of_getElem? (i := 304) (by decide +kernel), List.mem_of_getElem? (i := 396) (by decide +kernel), List.mem_of_getElem? (i := 397) (by decide +kernel)⟩
theorem lw_p13 : lw_okq (⟨"HashTreeModel", "hash", "(III)V"⟩, 22) := ⟨⟨by decide +kernel, by decide +kernel⟩, List.mem_of_getElem? (i := 304) (by decide +kernel), List.mem_of_getElem? (i := 423) (by decide +kernel), List.mem_of_getElem? (i := 424) (by decide +kernel)⟩
theorem lw_p14 : lw_okq (⟨"HashTreeModel", "leaf", "(II)V"⟩, 22) := ⟨⟨by decide +kernel, by decide +kernel⟩, List.mem_of_getElem? (i := 304) (by decide +kernel), List.mem_of_getElem? (i := 427) (by decide +kernel), List.mem_of_getElem? (i := 428) (by decide +kernel)⟩
theorem lw_p15 : lw_okq (⟨"HashTreeModel", "join", "(I[JI[JI)V"⟩, 22) := ⟨⟨by decide +kernel, by decide +kernel⟩, List.mem_of_getElem? (i := 304) (by decide +kernel), List.mem_of_getElem? (i := 431) (by decide +kernel), List.mem_of_getElem? (i := 432) (by decide +kernel)⟩
def lw_privs_1 : List (MethodName × Nat) := [(⟨"HashTree", "leafOfKey", "()LHashTree$Leaf;"⟩, 9), (⟨"HashTree", "nearestLeaf", "()LHashTree$Leaf;"⟩, 9), (⟨"HashTree", "stalePath", "(I)LHashTree$Branch;"⟩, 9), (⟨"HashTree", "insert", "(LHashTree$Leaf;)V"⟩, 9), (⟨"HashTree", "hang", "(LHashTree$Branch;LHashTree$Node;)V"⟩, 9), (⟨"HashTree", "refresh", "()V"⟩, 9), (⟨"HashTree", "hashAt", "(LHashTree$Node;I[J)V"⟩, 9), (⟨"HashTree$Digester", "spread", "()V"⟩, 3), (⟨"HashTree$Digester", "mix", "()V"⟩, 3), (⟨"HashTree", "keepSibling", "(I[J)V"⟩, 9), (⟨"HashTree", "keepEnd", "(LHashTree$Leaf;)V"⟩, 9), (⟨"HashTreeModel", "place", "()I"⟩, 22), (⟨"HashTreeModel", "isAt", "(I)Z"⟩, 22), (⟨"HashTreeModel", "hash", "(III)V"⟩, 22), (⟨"HashTreeModel", "leaf", "(II)V"⟩, 22), (⟨"HashTreeModel", "join", "(I[JI[JI)V"⟩, 22)]
theorem lw_r1 : ∀ q ∈ lw_privs_1, lw_okq q := List.forall_mem_cons.mpr ⟨lw_p0, List.forall_mem_cons.mpr ⟨lw_p1, List.forall_mem_cons.mpr ⟨lw_p2, List.forall_mem_cons.mpr ⟨lw_p3, List.forall_mem_cons.mpr ⟨lw_p4, List.forall_mem_cons.mpr ⟨lw_p5, List.forall_mem_cons.mpr ⟨lw_p6, List.forall_mem_cons.mpr ⟨lw_p7, List.forall_mem_cons.mpr ⟨lw_p8, List.forall_mem_cons.mpr ⟨lw_p9, List.forall_mem_cons.mpr ⟨lw_p10, List.forall_mem_cons.mpr ⟨lw_p11, List.forall_mem_cons.mpr ⟨lw_p12, List.forall_mem_cons.mpr ⟨lw_p13, List.forall_mem_cons.mpr ⟨lw_p14, List.forall_mem_cons.mpr ⟨lw_p15, fun _ h => absurd h List.not_mem_nil⟩⟩⟩⟩⟩⟩⟩⟩⟩⟩⟩⟩⟩⟩⟩⟩
theorem lw_p16 : lw_okq (⟨"HashTreeModel", "put", "(I[JI)V"⟩, 22) := ⟨⟨by decide +kernel, by decide +kernel⟩, List.mem_of_getElem? (i := 304) (by decide +kernel), List.mem_of_getElem? (i := 441) (by decide +kernel), List.mem_of_getElem? (i := 442) (by decide +kernel)⟩
theorem lw_p17 : lw_okq (⟨"HashTreeModel", "digestOf", "(I)V"⟩, 22) := ⟨⟨by decide +kernel, by decide +kernel⟩, List.mem_of_getElem? (i := 304) (by decide +kernel), List.mem_of_getElem? (i := 445) (by decide +kernel), List.mem_of_getElem? (i := 446) (by decide +kernel)⟩
theorem lw_p18 : lw_okq (⟨"HashTreeModel", "block", "(I)V"⟩, 22) := ⟨⟨by decide +kernel, by decide +kernel⟩, List.mem_of_getElem? (i := 304) (by decide +kernel), List.mem_of_getElem? (i := 458) (by decide +kernel), List.mem_of_getElem? (i := 459) (by decide +kernel)⟩
theorem lw_p19 : lw_okq (⟨"HashTreeModel", "wordPair", "(I)J"⟩, 22) := ⟨⟨by decide +kernel, by decide +kernel⟩, List.mem_of_getElem? (i := 304) (by decide +kernel), List.mem_of_getElem? (i := 469) (by decide +kernel), List.mem_of_getElem? (i := 470) (by decide +kernel)⟩
theorem lw_p20 : lw_okq (⟨"HashTreeModel", "step", "(I)V"⟩, 22) := ⟨⟨by decide +kernel, by decide +kernel⟩, List.mem_of_getElem? (i := 304) (by decide +kernel), List.mem_of_getElem? (i := 473) (by decide +kernel), List.mem_of_getElem? (i := 474) (by decide +kernel)⟩
theorem lw_p21 : lw_okq (⟨"HashTreeModel", "agree", "(III)Z"⟩, 22) := ⟨⟨by decide +kernel, by decide +kernel⟩, List.mem_of_getElem? (i := 304) (by decide +kernel), List.mem_of_getElem? (i := 477) (by decide +kernel), List.mem_of_getElem? (i := 478) (by decide +kernel)⟩
theorem lw_p22 : lw_okq (⟨"HashTreeModel", "fork", "(III)V"⟩, 22) := ⟨⟨by decide +kernel, by decide +kernel⟩, List.mem_of_getElem? (i := 304) (by decide +kernel), List.mem_of_getElem? (i := 481) (by decide +kernel), List.mem_of_getElem? (i := 482) (by decide +kernel)⟩
def lw_privs_2 : List (MethodName × Nat) := [(⟨"HashTreeModel", "put", "(I[JI)V"⟩, 22), (⟨"HashTreeModel", "digestOf", "(I)V"⟩, 22), (⟨"HashTreeModel", "block", "(I)V"⟩, 22), (⟨"HashTreeModel", "wordPair", "(I)J"⟩, 22), (⟨"HashTreeModel", "step", "(I)V"⟩, 22), (⟨"HashTreeModel", "agree", "(III)Z"⟩, 22), (⟨"HashTreeModel", "fork", "(III)V"⟩, 22)]
theorem lw_r2 : ∀ q ∈ lw_privs_2, lw_okq q := List.forall_mem_cons.mpr ⟨lw_p16, List.forall_mem_cons.mpr ⟨lw_p17, List.forall_mem_cons.mpr ⟨lw_p18, List.forall_mem_cons.mpr ⟨lw_p19, List.forall_mem_cons.mpr ⟨lw_p20, List.forall_mem_cons.mpr ⟨lw_p21, List.forall_mem_cons.mpr ⟨lw_p22, fun _ h => absurd h List.not_mem_nil⟩⟩⟩⟩⟩⟩⟩
def lw_privs : List (MethodName × Nat) := lw_privs_1 ++ (lw_privs_2)
def lw_tbl : List Cond := k2_sels lw_privs ++ tables_1
theorem lw_privs_ok : ∀ q ∈ lw_privs, lw_okq q := by
  show ∀ q ∈ lw_privs_1 ++ (lw_privs_2), lw_okq q
  exact List.forall_mem_append.mpr ⟨lw_r1, lw_r2⟩
def R_X : String := "HashTree"
def R_D : String := "HashTree$Digester"
def R_L : String := "HashTree$Leaf"
def R_B : String := "HashTree$Branch"
def R_N : String := "HashTree$Node"
def R_M : String := "HashTreeModel"
def R_W : String := "HashTreeLaw"
def R_JI : String := "java/lang/Integer"
def R_JL : String := "java/lang/Long"
def R_JM : String := "java/lang/Math"
def R_JA : String := "java/util/Arrays"
def R_JO : String := "java/lang/Object"
def R_JS : String := "java/lang/System"
def F_X : u_T := fun k => match k with
  | 0 => ("HashTree", "key", "[J", true)
  | 1 => ("HashTree", "digester", "LHashTree$Digester;", true)
  | 2 => ("HashTree", "open", "[LHashTree$Node;", true)
  | 3 => ("HashTree", "top", "LHashTree$Node;", false)
  | 4 => ("HashTree", "count", "I", false)
  | 5 => ("HashTree", "siblings", "[J", true)
  | 6 => ("HashTree", "lastSibling", "[J", true)
  | 7 => ("HashTree", "end", "[J", true)
  | _ => ("HashTree", "ending", "I", false)
def t_X : Nat → FieldType := fun k => match k with
  | 0 => .array .long
  | 1 => .object "HashTree$Digester"
  | 2 => .array (.object "HashTree$Node")
  | 3 => .object "HashTree$Node"
  | 4 => .int
  | 5 => .array .long
  | 6 => .array .long
  | 7 => .array .long
  | _ => .int
theorem n_X : ∀ a, a < 9 → ∀ b, b < 9 → a ≠ b → (F_X a).2.1 ≠ (F_X b).2.1 := by decide +kernel
theorem t_X_ok : ∀ k, k < 9 → parseFieldDescriptor (F_X k).2.2.1 = some (t_X k) := by decide +kernel
def F_D : u_T := fun k => match k with
  | 0 => ("HashTree$Digester", "words", "[I", true)
  | 1 => ("HashTree$Digester", "w", "[I", true)
  | _ => ("HashTree$Digester", "length", "I", false)
def t_D : Nat → FieldType := fun k => match k with
  | 0 => .array .int
  | 1 => .array .int
  | _ => .int
theorem n_D : ∀ a, a < 3 → ∀ b, b < 3 → a ≠ b → (F_D a).2.1 ≠ (F_D b).2.1 := by decide +kernel
theorem t_D_ok : ∀ k, k < 3 → parseFieldDescriptor (F_D k).2.2.1 = some (t_D k) := by decide +kernel
def F_L : u_T := fun k => match k with
  | 0 => ("HashTree$Node", "key", "[J", true)
  | 1 => ("HashTree$Node", "level", "I", true)
  | 2 => ("HashTree$Node", "hash", "[J", true)
  | 3 => ("HashTree$Node", "fresh", "Z", false)
  | _ => ("HashTree$Leaf", "value", "[J", true)
def t_L : Nat → FieldType := fun k => match k with
  | 0 => .array .long
  | 1 => .int
  | 2 => .array .long
  | 3 => .boolean
  | _ => .array .long
theorem n_L : ∀ a, a < 5 → ∀ b, b < 5 → a ≠ b → (F_L a).2.1 ≠ (F_L b).2.1 := by decide +kernel
theorem t_L_ok : ∀ k, k < 5 → parseFieldDescriptor (F_L k).2.2.1 = some (t_L k) := by decide +kernel
def F_B : u_T := fun k => match k with
  | 0 => ("HashTree$Node", "key", "[J", true)
  | 1 => ("HashTree$Node", "level", "I", true)
  | 2 => ("HashTree$Node", "hash", "[J", true)
  | 3 => ("HashTree$Node", "fresh", "Z", false)
  | 4 => ("HashTree$Branch", "zero", "LHashTree$Node;", false)
  | _ => ("HashTree$Branch", "one", "LHashTree$Node;", false)
def t_B : Nat → FieldType := fun k => match k with
  | 0 => .array .long
  | 1 => .int
  | 2 => .array .long
  | 3 => .boolean
  | 4 => .object "HashTree$Node"
  | _ => .object "HashTree$Node"
theorem n_B : ∀ a, a < 6 → ∀ b, b < 6 → a ≠ b → (F_B a).2.1 ≠ (F_B b).2.1 := by decide +kernel
theorem t_B_ok : ∀ k, k < 6 → parseFieldDescriptor (F_B k).2.2.1 = some (t_B k) := by decide +kernel
def F_M : u_T := fun k => match k with
  | 0 => ("HashTreeModel", "keys", "[J", true)
  | 1 => ("HashTreeModel", "values", "[J", true)
  | 2 => ("HashTreeModel", "count", "I", false)
  | 3 => ("HashTreeModel", "now", "[J", true)
  | 4 => ("HashTreeModel", "begins", "[I", true)
  | 5 => ("HashTreeModel", "sizes", "[I", true)
  | 6 => ("HashTreeModel", "hashes", "[J", true)
  | 7 => ("HashTreeModel", "nodes", "I", false)
  | 8 => ("HashTreeModel", "root", "[J", true)
  | 9 => ("HashTreeModel", "rooted", "Z", false)
  | 10 => ("HashTreeModel", "siblings", "[J", true)
  | 11 => ("HashTreeModel", "depth", "I", false)
  | 12 => ("HashTreeModel", "ending", "I", false)
  | 13 => ("HashTreeModel", "end", "[J", true)
  | 14 => ("HashTreeModel", "message", "[B", true)
  | 15 => ("HashTreeModel", "words", "[J", true)
  | 16 => ("HashTreeModel", "kept", "[B", true)
  | 17 => ("HashTreeModel", "keptOf", "[J", true)
  | 18 => ("HashTreeModel", "keptDigests", "[J", true)
  | 19 => ("HashTreeModel", "pair", "[J", true)
  | 20 => ("HashTreeModel", "got", "[J", true)
  | _ => ("HashTreeModel", "schedule", "[J", true)
def t_M : Nat → FieldType := fun k => match k with
  | 0 => .array .long
  | 1 => .array .long
  | 2 => .int
  | 3 => .array .long
  | 4 => .array .int
  | 5 => .array .int
  | 6 => .array .long
  | 7 => .int
  | 8 => .array .long
  | 9 => .boolean
  | 10 => .array .long
  | 11 => .int
  | 12 => .int
  | 13 => .array .long
  | 14 => .array .byte
  | 15 => .array .long
  | 16 => .array .byte
  | 17 => .array .long
  | 18 => .array .long
  | 19 => .array .long
  | 20 => .array .long
  | _ => .array .long
theorem n_M : ∀ a, a < 22 → ∀ b, b < 22 → a ≠ b → (F_M a).2.1 ≠ (F_M b).2.1 := by decide +kernel
theorem t_M_ok : ∀ k, k < 22 → parseFieldDescriptor (F_M k).2.2.1 = some (t_M k) := by decide +kernel
abbrev vwCl : List vw_C := [(R_X, F_X, 9), (R_D, F_D, 3), (R_L, F_L, 5), (R_B, F_B, 6), (R_M, F_M, 22)]
abbrev b_X_init : ByteArray := prog_1_method_1_code
def y_X_init : MethodName := ⟨R_X, "<init>", "()V"⟩
abbrev b_D_init : ByteArray := prog_3_method_1_code
def y_D_init : MethodName := ⟨R_D, "<init>", "()V"⟩
abbrev b_X_key : ByteArray := prog_1_method_2_code
def y_X_key : MethodName := ⟨R_X, "key", "(JJJJ)V"⟩
abbrev b_X_fill : ByteArray := prog_1_method_15_code
def y_X_fill : MethodName := ⟨R_X, "fill", "([JJJJJ)V"⟩
abbrev b_X_set : ByteArray := prog_1_method_3_code
def y_X_set : MethodName := ⟨R_X, "set", "(JJJJ)I"⟩
abbrev b_X_leafOfKey : ByteArray := prog_1_method_19_code
def y_X_leafOfKey : MethodName := ⟨R_X, "leafOfKey", "()LHashTree$Leaf;"⟩
abbrev b_X_nearestLeaf : ByteArray := prog_1_method_18_code
def y_X_nearestLeaf : MethodName := ⟨R_X, "nearestLeaf", "()LHashTree$Leaf;"⟩
abbrev b_X_isOne : ByteArray := prog_1_method_16_code
def y_X_isOne : MethodName := ⟨R_X, "isOne", "([JI)Z"⟩
abbrev b_B_half : ByteArray := prog_2_method_2_code
def y_B_half : MethodName := ⟨R_B, "half", "(Z)LHashTree$Node;"⟩
abbrev b_X_partingLevel : ByteArray := prog_1_method_17_code
def y_X_partingLevel : MethodName := ⟨R_X, "partingLevel", "([J[J)I"⟩
abbrev b_JL_numberOfLeadingZeros : ByteArray := prog_10_method_48_code
def y_JL_numberOfLeadingZeros : MethodName := ⟨R_JL, "numberOfLeadingZeros", "(J)I"⟩
abbrev b_JI_numberOfLeadingZeros : ByteArray := prog_9_method_47_code
def y_JI_numberOfLeadingZeros : MethodName := ⟨R_JI, "numberOfLeadingZeros", "(I)I"⟩
abbrev b_X_stalePath : ByteArray := prog_1_method_20_code
def y_X_stalePath : MethodName := ⟨R_X, "stalePath", "(I)LHashTree$Branch;"⟩
abbrev b_L_init : ByteArray := prog_4_method_1_code
def y_L_init : MethodName := ⟨R_L, "<init>", "([J)V"⟩
abbrev b_N_init : ByteArray := prog_5_method_1_code
def y_N_init : MethodName := ⟨R_N, "<init>", "([JI)V"⟩
abbrev b_X_insert : ByteArray := prog_1_method_21_code
def y_X_insert : MethodName := ⟨R_X, "insert", "(LHashTree$Leaf;)V"⟩
abbrev b_B_init : ByteArray := prog_2_method_1_code
def y_B_init : MethodName := ⟨R_B, "<init>", "([JILHashTree$Node;LHashTree$Node;)V"⟩
abbrev b_X_hang : ByteArray := prog_1_method_22_code
def y_X_hang : MethodName := ⟨R_X, "hang", "(LHashTree$Branch;LHashTree$Node;)V"⟩
abbrev b_B_putHalf : ByteArray := prog_2_method_3_code
def y_B_putHalf : MethodName := ⟨R_B, "putHalf", "(ZLHashTree$Node;)V"⟩
abbrev b_X_remove : ByteArray := prog_1_method_4_code
def y_X_remove : MethodName := ⟨R_X, "remove", "()I"⟩
abbrev b_X_has : ByteArray := prog_1_method_5_code
def y_X_has : MethodName := ⟨R_X, "has", "()Z"⟩
abbrev b_X_value : ByteArray := prog_1_method_6_code
def y_X_value : MethodName := ⟨R_X, "value", "(I)J"⟩
abbrev b_X_isNumber : ByteArray := prog_1_method_14_code
def y_X_isNumber : MethodName := ⟨R_X, "isNumber", "(I)Z"⟩
abbrev b_X_count : ByteArray := prog_1_method_7_code
def y_X_count : MethodName := ⟨R_X, "count", "()I"⟩
abbrev b_X_root : ByteArray := prog_1_method_8_code
def y_X_root : MethodName := ⟨R_X, "root", "(I)J"⟩
abbrev b_X_refresh : ByteArray := prog_1_method_23_code
def y_X_refresh : MethodName := ⟨R_X, "refresh", "()V"⟩
abbrev b_B_staleHalf : ByteArray := prog_2_method_4_code
def y_B_staleHalf : MethodName := ⟨R_B, "staleHalf", "()LHashTree$Node;"⟩
abbrev b_X_hashAt : ByteArray := prog_1_method_24_code
def y_X_hashAt : MethodName := ⟨R_X, "hashAt", "(LHashTree$Node;I[J)V"⟩
abbrev b_D_join : ByteArray := prog_3_method_7_code
def y_D_join : MethodName := ⟨R_D, "join", "(I[J[J[J)V"⟩
abbrev b_D_begin : ByteArray := prog_3_method_2_code
def y_D_begin : MethodName := ⟨R_D, "begin", "()V"⟩
abbrev b_D_take : ByteArray := prog_3_method_3_code
def y_D_take : MethodName := ⟨R_D, "take", "(I)V"⟩
abbrev b_D_spread : ByteArray := prog_3_method_8_code
def y_D_spread : MethodName := ⟨R_D, "spread", "()V"⟩
abbrev b_JI_rotateRight : ByteArray := prog_9_method_51_code
def y_JI_rotateRight : MethodName := ⟨R_JI, "rotateRight", "(II)I"⟩
abbrev b_D_mix : ByteArray := prog_3_method_9_code
def y_D_mix : MethodName := ⟨R_D, "mix", "()V"⟩
abbrev b_D_takeLowest : ByteArray := prog_3_method_4_code
def y_D_takeLowest : MethodName := ⟨R_D, "takeLowest", "(JI)V"⟩
abbrev b_D_finish : ByteArray := prog_3_method_5_code
def y_D_finish : MethodName := ⟨R_D, "finish", "()V"⟩
abbrev b_D_number : ByteArray := prog_3_method_6_code
def y_D_number : MethodName := ⟨R_D, "number", "(I)J"⟩
abbrev b_X_prove : ByteArray := prog_1_method_9_code
def y_X_prove : MethodName := ⟨R_X, "prove", "()I"⟩
abbrev b_JA_fill : ByteArray := prog_13_method_101_code
def y_JA_fill : MethodName := ⟨R_JA, "fill", "([JJ)V"⟩
abbrev b_X_keepSibling : ByteArray := prog_1_method_25_code
def y_X_keepSibling : MethodName := ⟨R_X, "keepSibling", "(I[J)V"⟩
abbrev b_X_keepEnd : ByteArray := prog_1_method_26_code
def y_X_keepEnd : MethodName := ⟨R_X, "keepEnd", "(LHashTree$Leaf;)V"⟩
abbrev b_X_sibling : ByteArray := prog_1_method_10_code
def y_X_sibling : MethodName := ⟨R_X, "sibling", "(II)J"⟩
abbrev b_X_ending : ByteArray := prog_1_method_11_code
def y_X_ending : MethodName := ⟨R_X, "ending", "()I"⟩
abbrev b_X_endNumber : ByteArray := prog_1_method_12_code
def y_X_endNumber : MethodName := ⟨R_X, "endNumber", "(II)J"⟩
abbrev b_X_digest : ByteArray := prog_1_method_13_code
def y_X_digest : MethodName := ⟨R_X, "digest", "(JIII)J"⟩
abbrev b_M_init : ByteArray := prog_7_method_1_code
def y_M_init : MethodName := ⟨R_M, "<init>", "()V"⟩
abbrev b_M_key : ByteArray := prog_7_method_17_code
def y_M_key : MethodName := ⟨R_M, "key", "(JJJJ)V"⟩
abbrev b_M_set : ByteArray := prog_7_method_18_code
def y_M_set : MethodName := ⟨R_M, "set", "(JJJJ)I"⟩
abbrev b_M_place : ByteArray := prog_7_method_8_code
def y_M_place : MethodName := ⟨R_M, "place", "()I"⟩
abbrev b_M_compare : ByteArray := prog_7_method_7_code
def y_M_compare : MethodName := ⟨R_M, "compare", "([JI[JI)I"⟩
abbrev b_M_isAt : ByteArray := prog_7_method_9_code
def y_M_isAt : MethodName := ⟨R_M, "isAt", "(I)Z"⟩
abbrev b_M_remove : ByteArray := prog_7_method_19_code
def y_M_remove : MethodName := ⟨R_M, "remove", "()I"⟩
abbrev b_M_has : ByteArray := prog_7_method_20_code
def y_M_has : MethodName := ⟨R_M, "has", "()Z"⟩
abbrev b_M_value : ByteArray := prog_7_method_22_code
def y_M_value : MethodName := ⟨R_M, "value", "(I)J"⟩
abbrev b_M_isNumber : ByteArray := prog_7_method_21_code
def y_M_isNumber : MethodName := ⟨R_M, "isNumber", "(I)Z"⟩
abbrev b_M_count : ByteArray := prog_7_method_23_code
def y_M_count : MethodName := ⟨R_M, "count", "()I"⟩
abbrev b_M_root : ByteArray := prog_7_method_24_code
def y_M_root : MethodName := ⟨R_M, "root", "(I)J"⟩
abbrev b_M_hash : ByteArray := prog_7_method_15_code
def y_M_hash : MethodName := ⟨R_M, "hash", "(III)V"⟩
abbrev b_M_leaf : ByteArray := prog_7_method_13_code
def y_M_leaf : MethodName := ⟨R_M, "leaf", "(II)V"⟩
abbrev b_M_join : ByteArray := prog_7_method_12_code
def y_M_join : MethodName := ⟨R_M, "join", "(I[JI[JI)V"⟩
abbrev b_JM_floorMod : ByteArray := prog_11_method_52_code
def y_JM_floorMod : MethodName := ⟨R_JM, "floorMod", "(JJ)J"⟩
abbrev b_M_put : ByteArray := prog_7_method_6_code
def y_M_put : MethodName := ⟨R_M, "put", "(I[JI)V"⟩
abbrev b_M_digestOf : ByteArray := prog_7_method_3_code
def y_M_digestOf : MethodName := ⟨R_M, "digestOf", "(I)V"⟩
abbrev b_M_block : ByteArray := prog_7_method_4_code
def y_M_block : MethodName := ⟨R_M, "block", "(I)V"⟩
abbrev b_M_turned : ByteArray := prog_7_method_2_code
def y_M_turned : MethodName := ⟨R_M, "turned", "(JI)J"⟩
abbrev b_M_wordPair : ByteArray := prog_7_method_5_code
def y_M_wordPair : MethodName := ⟨R_M, "wordPair", "(I)J"⟩
abbrev b_M_step : ByteArray := prog_7_method_16_code
def y_M_step : MethodName := ⟨R_M, "step", "(I)V"⟩
abbrev b_M_agree : ByteArray := prog_7_method_11_code
def y_M_agree : MethodName := ⟨R_M, "agree", "(III)Z"⟩
abbrev b_M_fork : ByteArray := prog_7_method_14_code
def y_M_fork : MethodName := ⟨R_M, "fork", "(III)V"⟩
abbrev b_M_bit : ByteArray := prog_7_method_10_code
def y_M_bit : MethodName := ⟨R_M, "bit", "([JII)I"⟩
abbrev b_M_prove : ByteArray := prog_7_method_25_code
def y_M_prove : MethodName := ⟨R_M, "prove", "()I"⟩
abbrev b_M_sibling : ByteArray := prog_7_method_26_code
def y_M_sibling : MethodName := ⟨R_M, "sibling", "(II)J"⟩
abbrev b_M_ending : ByteArray := prog_7_method_27_code
def y_M_ending : MethodName := ⟨R_M, "ending", "()I"⟩
abbrev b_M_endNumber : ByteArray := prog_7_method_28_code
def y_M_endNumber : MethodName := ⟨R_M, "endNumber", "(II)J"⟩
abbrev b_M_digest : ByteArray := prog_7_method_29_code
def y_M_digest : MethodName := ⟨R_M, "digest", "(JIII)J"⟩
abbrev b_W_law : ByteArray := code
def y_W_law : MethodName := ⟨R_W, "law", "([I)Z"⟩
/-- all the tables' words that a method may carry on -/
def bg : List Cond := lw_tbl.filter goodWord
theorem bg_in {w : Cond} (h : w ∈ tables_1) (hg : goodWord w = true) : w ∈ bg := List.mem_filter.mpr ⟨List.mem_append_right _ h, hg⟩
theorem bg_sel {w : Cond} (h : w ∈ k2_sels lw_privs) (hg : goodWord w = true) : w ∈ bg := List.mem_filter.mpr ⟨List.mem_append_left _ h, hg⟩
theorem bg_good : GoodIn bg bg := fun w h => ⟨h, good_of_word (List.mem_filter.mp h).2⟩
