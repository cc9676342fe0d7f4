theorem wd_0 : (.initialized "HashTreeLaw" : Cond) ∈ bg := bg_in (List.mem_of_getElem? (i := 0) (by decide +kernel)) rfl
theorem wd_1 : (.initialized "HashTree" : Cond) ∈ bg := bg_in (List.mem_of_getElem? (i := 1) (by decide +kernel)) rfl
theorem wd_2 : (.initialized "HashTree$Digester" : Cond) ∈ bg := bg_in (List.mem_of_getElem? (i := 2) (by decide +kernel)) rfl
theorem wd_3 : (.initialized "HashTreeModel" : Cond) ∈ bg := bg_in (List.mem_of_getElem? (i := 3) (by decide +kernel)) rfl
theorem wd_4 : (.initialized "java/lang/Long" : Cond) ∈ bg := bg_in (List.mem_of_getElem? (i := 4) (by decide +kernel)) rfl
theorem wd_5 : (.initialized "java/lang/Integer" : Cond) ∈ bg := bg_in (List.mem_of_getElem? (i := 5) (by decide +kernel)) rfl
theorem wd_6 : (.initialized "HashTree$Node" : Cond) ∈ bg := bg_in (List.mem_of_getElem? (i := 6) (by decide +kernel)) rfl
theorem wd_7 : (.initialized "HashTree$Leaf" : Cond) ∈ bg := bg_in (List.mem_of_getElem? (i := 7) (by decide +kernel)) rfl
theorem wd_8 : (.initialized "HashTree$Branch" : Cond) ∈ bg := bg_in (List.mem_of_getElem? (i := 8) (by decide +kernel)) rfl
theorem wd_9 : (.initialized "java/lang/System" : Cond) ∈ bg := bg_in (List.mem_of_getElem? (i := 9) (by decide +kernel)) rfl
theorem wd_10 : (.initialized "java/lang/Math" : Cond) ∈ bg := bg_in (List.mem_of_getElem? (i := 10) (by decide +kernel)) rfl
theorem wd_11 : (.initialized "java/util/Arrays" : Cond) ∈ bg := bg_in (List.mem_of_getElem? (i := 11) (by decide +kernel)) rfl
theorem wd_12 : (.classLink "HashTreeLaw" 7 "HashTree" : Cond) ∈ bg := bg_in (List.mem_of_getElem? (i := 12) (by decide +kernel)) rfl
theorem wd_13 : (.instantiable "HashTree" 9 : Cond) ∈ bg := bg_in (List.mem_of_getElem? (i := 13) (by decide +kernel)) rfl
theorem wd_14 : (.methodLink "HashTreeLaw" 9 y_X_init : Cond) ∈ bg := bg_in (List.mem_of_getElem? (i := 14) (by decide +kernel)) rfl
theorem wd_15 : (.instanceMethod y_X_init : Cond) ∈ bg := bg_in (List.mem_of_getElem? (i := 15) (by decide +kernel)) rfl
theorem wc_X_init : (.code y_X_init b_X_init 1 none : Cond) ∈ bg := bg_in (List.mem_of_getElem? (i := 16) (by decide +kernel)) rfl
def ws_X_init : List Cond := .code y_X_init b_X_init 1 none :: bg
theorem g_X_init : GoodIn bg ws_X_init := fun w h => (List.mem_cons.mp h).elim (fun e => e ▸ bg_good _ wc_X_init) (bg_good w)
theorem wd_17 : (.methodLink "HashTree" 3 objectInit : Cond) ∈ bg := bg_in (List.mem_of_getElem? (i := 17) (by decide +kernel)) rfl
theorem wd_18 : (.instanceMethod objectInit : Cond) ∈ bg := bg_in (List.mem_of_getElem? (i := 18) (by decide +kernel)) rfl
theorem wc_objectInit : (.code objectInit object_method_1_code 1 none : Cond) ∈ bg := bg_in (List.mem_of_getElem? (i := 19) (by decide +kernel)) rfl
theorem wd_20 : (.classLink "HashTree" 13 "HashTree$Digester" : Cond) ∈ bg := bg_in (List.mem_of_getElem? (i := 20) (by decide +kernel)) rfl
theorem wd_21 : (.instantiable "HashTree$Digester" 3 : Cond) ∈ bg := bg_in (List.mem_of_getElem? (i := 21) (by decide +kernel)) rfl
theorem wd_23 : (.instanceMethod y_D_init : Cond) ∈ bg := bg_in (List.mem_of_getElem? (i := 23) (by decide +kernel)) rfl
theorem wc_D_init : (.code y_D_init b_D_init 1 none : Cond) ∈ bg := bg_in (List.mem_of_getElem? (i := 24) (by decide +kernel)) rfl
def ws_D_init : List Cond := .code y_D_init b_D_init 1 none :: bg
theorem g_D_init : GoodIn bg ws_D_init := fun w h => (List.mem_cons.mp h).elim (fun e => e ▸ bg_good _ wc_D_init) (bg_good w)
theorem wd_25 : (.methodLink "HashTree$Digester" 3 objectInit : Cond) ∈ bg := bg_in (List.mem_of_getElem? (i := 25) (by decide +kernel)) rfl
theorem wd_26 : (.fieldLink "HashTree$Digester" 11 "HashTree$Digester" "words" "[I" : Cond) ∈ bg := bg_in (List.mem_of_getElem? (i := 26) (by decide +kernel)) rfl
theorem wd_27 : (.fieldLink "HashTree$Digester" 15 "HashTree$Digester" "w" "[I" : Cond) ∈ bg := bg_in (List.mem_of_getElem? (i := 27) (by decide +kernel)) rfl
theorem wd_28 : (.fieldLink "HashTree$Digester" 18 "HashTree$Digester" "length" "I" : Cond) ∈ bg := bg_in (List.mem_of_getElem? (i := 28) (by decide +kernel)) rfl
theorem wd_29 : (.laysFinal "HashTree$Digester" "HashTree$Digester" "words" "[I" : Cond) ∈ bg := bg_in (List.mem_of_getElem? (i := 29) (by decide +kernel)) rfl
theorem wd_31 : (.laysFinal "HashTree$Digester" "HashTree$Digester" "w" "[I" : Cond) ∈ bg := bg_in (List.mem_of_getElem? (i := 31) (by decide +kernel)) rfl
theorem wd_33 : (.lays "HashTree$Digester" "HashTree$Digester" "length" "I" : Cond) ∈ bg := bg_in (List.mem_of_getElem? (i := 33) (by decide +kernel)) rfl
theorem wd_36 : (.arrayClass .long : Cond) ∈ bg := bg_in (List.mem_of_getElem? (i := 36) (by decide +kernel)) rfl
theorem wd_37 : (.arrayClass .int : Cond) ∈ bg := bg_in (List.mem_of_getElem? (i := 37) (by decide +kernel)) rfl
theorem wd_38 : (.classLink "HashTree" 20 "HashTree$Node" : Cond) ∈ bg := bg_in (List.mem_of_getElem? (i := 38) (by decide +kernel)) rfl
theorem wd_40 : (.fieldLink "HashTree" 9 "HashTree" "key" "[J" : Cond) ∈ bg := bg_in (List.mem_of_getElem? (i := 40) (by decide +kernel)) rfl
theorem wd_41 : (.fieldLink "HashTree" 16 "HashTree" "digester" "LHashTree$Digester;" : Cond) ∈ bg := bg_in (List.mem_of_getElem? (i := 41) (by decide +kernel)) rfl
theorem wd_42 : (.fieldLink "HashTree" 22 "HashTree" "open" "[LHashTree$Node;" : Cond) ∈ bg := bg_in (List.mem_of_getElem? (i := 42) (by decide +kernel)) rfl
theorem wd_43 : (.fieldLink "HashTree" 26 "HashTree" "top" "LHashTree$Node;" : Cond) ∈ bg := bg_in (List.mem_of_getElem? (i := 43) (by decide +kernel)) rfl
theorem wd_44 : (.fieldLink "HashTree" 30 "HashTree" "count" "I" : Cond) ∈ bg := bg_in (List.mem_of_getElem? (i := 44) (by decide +kernel)) rfl
theorem wd_45 : (.fieldLink "HashTree" 34 "HashTree" "siblings" "[J" : Cond) ∈ bg := bg_in (List.mem_of_getElem? (i := 45) (by decide +kernel)) rfl
theorem wd_46 : (.fieldLink "HashTree" 37 "HashTree" "lastSibling" "[J" : Cond) ∈ bg := bg_in (List.mem_of_getElem? (i := 46) (by decide +kernel)) rfl
theorem wd_47 : (.fieldLink "HashTree" 40 "HashTree" "end" "[J" : Cond) ∈ bg := bg_in (List.mem_of_getElem? (i := 47) (by decide +kernel)) rfl
theorem wd_48 : (.fieldLink "HashTree" 43 "HashTree" "ending" "I" : Cond) ∈ bg := bg_in (List.mem_of_getElem? (i := 48) (by decide +kernel)) rfl
theorem wd_49 : (.laysFinal "HashTree" "HashTree" "key" "[J" : Cond) ∈ bg := bg_in (List.mem_of_getElem? (i := 49) (by decide +kernel)) rfl
theorem wd_51 : (.laysFinal "HashTree" "HashTree" "digester" "LHashTree$Digester;" : Cond) ∈ bg := bg_in (List.mem_of_getElem? (i := 51) (by decide +kernel)) rfl
theorem wd_53 : (.laysFinal "HashTree" "HashTree" "open" "[LHashTree$Node;" : Cond) ∈ bg := bg_in (List.mem_of_getElem? (i := 53) (by decide +kernel)) rfl
theorem wd_55 : (.lays "HashTree" "HashTree" "top" "LHashTree$Node;" : Cond) ∈ bg := bg_in (List.mem_of_getElem? (i := 55) (by decide +kernel)) rfl
theorem wd_57 : (.lays "HashTree" "HashTree" "count" "I" : Cond) ∈ bg := bg_in (List.mem_of_getElem? (i := 57) (by decide +kernel)) rfl
theorem wd_59 : (.laysFinal "HashTree" "HashTree" "siblings" "[J" : Cond) ∈ bg := bg_in (List.mem_of_getElem? (i := 59) (by decide +kernel)) rfl
theorem wd_61 : (.laysFinal "HashTree" "HashTree" "lastSibling" "[J" : Cond) ∈ bg := bg_in (List.mem_of_getElem? (i := 61) (by decide +kernel)) rfl
theorem wd_63 : (.laysFinal "HashTree" "HashTree" "end" "[J" : Cond) ∈ bg := bg_in (List.mem_of_getElem? (i := 63) (by decide +kernel)) rfl
theorem wd_65 : (.lays "HashTree" "HashTree" "ending" "I" : Cond) ∈ bg := bg_in (List.mem_of_getElem? (i := 65) (by decide +kernel)) rfl
theorem wd_68 : (.methodLink "HashTreeLaw" 15 y_X_key : Cond) ∈ bg := bg_in (List.mem_of_getElem? (i := 68) (by decide +kernel)) rfl
theorem wd_69 : (.instanceMethod y_X_key : Cond) ∈ bg := bg_in (List.mem_of_getElem? (i := 69) (by decide +kernel)) rfl
theorem wd_70 : (.selects "HashTree" y_X_key y_X_key : Cond) ∈ bg := bg_in (List.mem_of_getElem? (i := 70) (by decide +kernel)) rfl
theorem wc_X_key : (.code y_X_key b_X_key 9 none : Cond) ∈ bg := bg_in (List.mem_of_getElem? (i := 71) (by decide +kernel)) rfl
def ws_X_key : List Cond := .code y_X_key b_X_key 9 none :: bg
theorem g_X_key : GoodIn bg ws_X_key := fun w h => (List.mem_cons.mp h).elim (fun e => e ▸ bg_good _ wc_X_key) (bg_good w)
theorem wd_72 : (.methodLink "HashTree" 46 y_X_fill : Cond) ∈ bg := bg_in (List.mem_of_getElem? (i := 72) (by decide +kernel)) rfl
theorem wd_73 : (.static y_X_fill : Cond) ∈ bg := bg_in (List.mem_of_getElem? (i := 73) (by decide +kernel)) rfl
theorem wc_X_fill : (.code y_X_fill b_X_fill 9 none : Cond) ∈ bg := bg_in (List.mem_of_getElem? (i := 74) (by decide +kernel)) rfl
def ws_X_fill : List Cond := .code y_X_fill b_X_fill 9 none :: bg
theorem g_X_fill : GoodIn bg ws_X_fill := fun w h => (List.mem_cons.mp h).elim (fun e => e ▸ bg_good _ wc_X_fill) (bg_good w)
theorem wd_75 : (.methodLink "HashTreeLaw" 20 y_X_set : Cond) ∈ bg := bg_in (List.mem_of_getElem? (i := 75) (by decide +kernel)) rfl
theorem wd_76 : (.instanceMethod y_X_set : Cond) ∈ bg := bg_in (List.mem_of_getElem? (i := 76) (by decide +kernel)) rfl
theorem wd_77 : (.selects "HashTree" y_X_set y_X_set : Cond) ∈ bg := bg_in (List.mem_of_getElem? (i := 77) (by decide +kernel)) rfl
theorem wc_X_set : (.code y_X_set b_X_set 11 (some .int) : Cond) ∈ bg := bg_in (List.mem_of_getElem? (i := 78) (by decide +kernel)) rfl
def ws_X_set : List Cond := .code y_X_set b_X_set 11 (some .int) :: bg
theorem g_X_set : GoodIn bg ws_X_set := fun w h => (List.mem_cons.mp h).elim (fun e => e ▸ bg_good _ wc_X_set) (bg_good w)
theorem wd_79 : (.methodLink "HashTree" 50 y_X_leafOfKey : Cond) ∈ bg := bg_in (List.mem_of_getElem? (i := 79) (by decide +kernel)) rfl
theorem wd_81 : (.instanceMethod y_X_leafOfKey : Cond) ∈ bg := bg_in (List.mem_of_getElem? (i := 81) (by decide +kernel)) rfl
theorem wc_X_leafOfKey : (.code y_X_leafOfKey b_X_leafOfKey 2 (some (.object "HashTree$Leaf")) : Cond) ∈ bg := bg_in (List.mem_of_getElem? (i := 82) (by decide +kernel)) rfl
def ws_X_leafOfKey : List Cond := .code y_X_leafOfKey b_X_leafOfKey 2 (some (.object "HashTree$Leaf")) :: bg
theorem g_X_leafOfKey : GoodIn bg ws_X_leafOfKey := fun w h => (List.mem_cons.mp h).elim (fun e => e ▸ bg_good _ wc_X_leafOfKey) (bg_good w)
theorem wd_83 : (.methodLink "HashTree" 112 y_X_nearestLeaf : Cond) ∈ bg := bg_in (List.mem_of_getElem? (i := 83) (by decide +kernel)) rfl
theorem wd_85 : (.instanceMethod y_X_nearestLeaf : Cond) ∈ bg := bg_in (List.mem_of_getElem? (i := 85) (by decide +kernel)) rfl
theorem wc_X_nearestLeaf : (.code y_X_nearestLeaf b_X_nearestLeaf 3 (some (.object "HashTree$Leaf")) : Cond) ∈ bg := bg_in (List.mem_of_getElem? (i := 86) (by decide +kernel)) rfl
def ws_X_nearestLeaf : List Cond := .code y_X_nearestLeaf b_X_nearestLeaf 3 (some (.object "HashTree$Leaf")) :: bg
theorem g_X_nearestLeaf : GoodIn bg ws_X_nearestLeaf := fun w h => (List.mem_cons.mp h).elim (fun e => e ▸ bg_good _ wc_X_nearestLeaf) (bg_good w)
theorem wd_87 : (.classLink "HashTree" 80 "HashTree$Branch" : Cond) ∈ bg := bg_in (List.mem_of_getElem? (i := 87) (by decide +kernel)) rfl
theorem wd_88 : (.methodLink "HashTree" 84 y_X_isOne : Cond) ∈ bg := bg_in (List.mem_of_getElem? (i := 88) (by decide +kernel)) rfl
theorem wd_89 : (.static y_X_isOne : Cond) ∈ bg := bg_in (List.mem_of_getElem? (i := 89) (by decide +kernel)) rfl
theorem wc_X_isOne : (.code y_X_isOne b_X_isOne 2 (some .boolean) : Cond) ∈ bg := bg_in (List.mem_of_getElem? (i := 90) (by decide +kernel)) rfl
def ws_X_isOne : List Cond := .code y_X_isOne b_X_isOne 2 (some .boolean) :: bg
theorem g_X_isOne : GoodIn bg ws_X_isOne := fun w h => (List.mem_cons.mp h).elim (fun e => e ▸ bg_good _ wc_X_isOne) (bg_good w)
theorem wd_91 : (.methodLink "HashTree" 88 y_B_half : Cond) ∈ bg := bg_in (List.mem_of_getElem? (i := 91) (by decide +kernel)) rfl
theorem wd_92 : (.instanceMethod y_B_half : Cond) ∈ bg := bg_in (List.mem_of_getElem? (i := 92) (by decide +kernel)) rfl
theorem wd_93 : (.selects "HashTree$Branch" y_B_half y_B_half : Cond) ∈ bg := bg_in (List.mem_of_getElem? (i := 93) (by decide +kernel)) rfl
theorem wc_B_half : (.code y_B_half b_B_half 2 (some (.object "HashTree$Node")) : Cond) ∈ bg := bg_in (List.mem_of_getElem? (i := 94) (by decide +kernel)) rfl
def ws_B_half : List Cond := .code y_B_half b_B_half 2 (some (.object "HashTree$Node")) :: bg
theorem g_B_half : GoodIn bg ws_B_half := fun w h => (List.mem_cons.mp h).elim (fun e => e ▸ bg_good _ wc_B_half) (bg_good w)
theorem wd_95 : (.classLink "HashTree" 59 "HashTree$Leaf" : Cond) ∈ bg := bg_in (List.mem_of_getElem? (i := 95) (by decide +kernel)) rfl
theorem wd_96 : (.methodLink "HashTree" 116 y_X_partingLevel : Cond) ∈ bg := bg_in (List.mem_of_getElem? (i := 96) (by decide +kernel)) rfl
theorem wd_97 : (.static y_X_partingLevel : Cond) ∈ bg := bg_in (List.mem_of_getElem? (i := 97) (by decide +kernel)) rfl
theorem wc_X_partingLevel : (.code y_X_partingLevel b_X_partingLevel 5 (some .int) : Cond) ∈ bg := bg_in (List.mem_of_getElem? (i := 98) (by decide +kernel)) rfl
def ws_X_partingLevel : List Cond := .code y_X_partingLevel b_X_partingLevel 5 (some .int) :: bg
theorem g_X_partingLevel : GoodIn bg ws_X_partingLevel := fun w h => (List.mem_cons.mp h).elim (fun e => e ▸ bg_good _ wc_X_partingLevel) (bg_good w)
theorem wd_99 : (.methodLink "HashTree" 145 y_JL_numberOfLeadingZeros : Cond) ∈ bg := bg_in (List.mem_of_getElem? (i := 99) (by decide +kernel)) rfl
theorem wd_100 : (.static y_JL_numberOfLeadingZeros : Cond) ∈ bg := bg_in (List.mem_of_getElem? (i := 100) (by decide +kernel)) rfl
theorem wc_JL_numberOfLeadingZeros : (.code y_JL_numberOfLeadingZeros b_JL_numberOfLeadingZeros 3 (some .int) : Cond) ∈ bg := bg_in (List.mem_of_getElem? (i := 101) (by decide +kernel)) rfl
def ws_JL_numberOfLeadingZeros : List Cond := .code y_JL_numberOfLeadingZeros b_JL_numberOfLeadingZeros 3 (some .int) :: bg
theorem g_JL_numberOfLeadingZeros : GoodIn bg ws_JL_numberOfLeadingZeros := fun w h => (List.mem_cons.mp h).elim (fun e => e ▸ bg_good _ wc_JL_numberOfLeadingZeros) (bg_good w)
theorem wd_102 : (.methodLink "java/lang/Long" 308 y_JI_numberOfLeadingZeros : Cond) ∈ bg := bg_in (List.mem_of_getElem? (i := 102) (by decide +kernel)) rfl
theorem wd_103 : (.static y_JI_numberOfLeadingZeros : Cond) ∈ bg := bg_in (List.mem_of_getElem? (i := 103) (by decide +kernel)) rfl
theorem wc_JI_numberOfLeadingZeros : (.code y_JI_numberOfLeadingZeros b_JI_numberOfLeadingZeros 2 (some .int) : Cond) ∈ bg := bg_in (List.mem_of_getElem? (i := 104) (by decide +kernel)) rfl
def ws_JI_numberOfLeadingZeros : List Cond := .code y_JI_numberOfLeadingZeros b_JI_numberOfLeadingZeros 2 (some .int) :: bg
theorem g_JI_numberOfLeadingZeros : GoodIn bg ws_JI_numberOfLeadingZeros := fun w h => (List.mem_cons.mp h).elim (fun e => e ▸ bg_good _ wc_JI_numberOfLeadingZeros) (bg_good w)
theorem wd_105 : (.constant "java/lang/Integer" 264 65536 : Cond) ∈ bg := bg_in (List.mem_of_getElem? (i := 105) (by decide +kernel)) rfl
theorem wd_106 : (.methodLink "HashTree" 54 y_X_stalePath : Cond) ∈ bg := bg_in (List.mem_of_getElem? (i := 106) (by decide +kernel)) rfl
theorem wd_108 : (.instanceMethod y_X_stalePath : Cond) ∈ bg := bg_in (List.mem_of_getElem? (i := 108) (by decide +kernel)) rfl
theorem wc_X_stalePath : (.code y_X_stalePath b_X_stalePath 5 (some (.object "HashTree$Branch")) : Cond) ∈ bg := bg_in (List.mem_of_getElem? (i := 109) (by decide +kernel)) rfl
def ws_X_stalePath : List Cond := .code y_X_stalePath b_X_stalePath 5 (some (.object "HashTree$Branch")) :: bg
theorem g_X_stalePath : GoodIn bg ws_X_stalePath := fun w h => (List.mem_cons.mp h).elim (fun e => e ▸ bg_good _ wc_X_stalePath) (bg_good w)
theorem wd_110 : (.instantiable "HashTree$Leaf" 5 : Cond) ∈ bg := bg_in (List.mem_of_getElem? (i := 110) (by decide +kernel)) rfl
theorem wd_111 : (.methodLink "HashTree" 67 ⟨"[J", "clone", "()Ljava/lang/Object;"⟩ : Cond) ∈ bg := bg_in (List.mem_of_getElem? (i := 111) (by decide +kernel)) rfl
theorem wd_112 : (.sameMethod "[J" "java/lang/Object" "clone" "()Ljava/lang/Object;" : Cond) ∈ bg := bg_in (List.mem_of_getElem? (i := 112) (by decide +kernel)) rfl
theorem wd_113 : (.native ⟨"java/lang/Object", "clone", "()Ljava/lang/Object;"⟩ : Cond) ∈ bg := bg_in (List.mem_of_getElem? (i := 113) (by decide +kernel)) rfl
theorem wd_114 : (.instanceMethod ⟨"java/lang/Object", "clone", "()Ljava/lang/Object;"⟩ : Cond) ∈ bg := bg_in (List.mem_of_getElem? (i := 114) (by decide +kernel)) rfl
theorem wd_115 : (.selects "[J" ⟨"[J", "clone", "()Ljava/lang/Object;"⟩ ⟨"java/lang/Object", "clone", "()Ljava/lang/Object;"⟩ : Cond) ∈ bg := bg_in (List.mem_of_getElem? (i := 115) (by decide +kernel)) rfl
theorem wd_117 : (.classLink "HashTree" 68 "[J" : Cond) ∈ bg := bg_in (List.mem_of_getElem? (i := 117) (by decide +kernel)) rfl
theorem wd_118 : (.methodLink "HashTree" 72 y_L_init : Cond) ∈ bg := bg_in (List.mem_of_getElem? (i := 118) (by decide +kernel)) rfl
theorem wd_119 : (.instanceMethod y_L_init : Cond) ∈ bg := bg_in (List.mem_of_getElem? (i := 119) (by decide +kernel)) rfl
theorem wc_L_init : (.code y_L_init b_L_init 2 none : Cond) ∈ bg := bg_in (List.mem_of_getElem? (i := 120) (by decide +kernel)) rfl
def ws_L_init : List Cond := .code y_L_init b_L_init 2 none :: bg
theorem g_L_init : GoodIn bg ws_L_init := fun w h => (List.mem_cons.mp h).elim (fun e => e ▸ bg_good _ wc_L_init) (bg_good w)
theorem wd_121 : (.methodLink "HashTree$Leaf" 3 y_N_init : Cond) ∈ bg := bg_in (List.mem_of_getElem? (i := 121) (by decide +kernel)) rfl
theorem wd_122 : (.instanceMethod y_N_init : Cond) ∈ bg := bg_in (List.mem_of_getElem? (i := 122) (by decide +kernel)) rfl
theorem wc_N_init : (.code y_N_init b_N_init 3 none : Cond) ∈ bg := bg_in (List.mem_of_getElem? (i := 123) (by decide +kernel)) rfl
def ws_N_init : List Cond := .code y_N_init b_N_init 3 none :: bg
theorem g_N_init : GoodIn bg ws_N_init := fun w h => (List.mem_cons.mp h).elim (fun e => e ▸ bg_good _ wc_N_init) (bg_good w)
theorem wd_124 : (.methodLink "HashTree$Node" 3 objectInit : Cond) ∈ bg := bg_in (List.mem_of_getElem? (i := 124) (by decide +kernel)) rfl
theorem wd_125 : (.fieldLink "HashTree$Leaf" 9 "HashTree$Leaf" "value" "[J" : Cond) ∈ bg := bg_in (List.mem_of_getElem? (i := 125) (by decide +kernel)) rfl
theorem wd_126 : (.fieldLink "HashTree" 64 "HashTree$Leaf" "value" "[J" : Cond) ∈ bg := bg_in (List.mem_of_getElem? (i := 126) (by decide +kernel)) rfl
theorem wd_127 : (.fieldLink "HashTree$Node" 19 "HashTree$Node" "key" "[J" : Cond) ∈ bg := bg_in (List.mem_of_getElem? (i := 127) (by decide +kernel)) rfl
theorem wd_128 : (.fieldLink "HashTree" 115 "HashTree$Leaf" "key" "[J" : Cond) ∈ bg := bg_in (List.mem_of_getElem? (i := 128) (by decide +kernel)) rfl
theorem wd_129 : (.sameField "HashTree$Leaf" "HashTree$Node" "key" "[J" : Cond) ∈ bg := bg_in (List.mem_of_getElem? (i := 129) (by decide +kernel)) rfl
theorem wd_130 : (.fieldLink "HashTree" 174 "HashTree$Branch" "key" "[J" : Cond) ∈ bg := bg_in (List.mem_of_getElem? (i := 130) (by decide +kernel)) rfl
theorem wd_131 : (.sameField "HashTree$Branch" "HashTree$Node" "key" "[J" : Cond) ∈ bg := bg_in (List.mem_of_getElem? (i := 131) (by decide +kernel)) rfl
theorem wd_132 : (.fieldLink "HashTree$Node" 22 "HashTree$Node" "level" "I" : Cond) ∈ bg := bg_in (List.mem_of_getElem? (i := 132) (by decide +kernel)) rfl
theorem wd_133 : (.fieldLink "HashTree" 79 "HashTree$Branch" "level" "I" : Cond) ∈ bg := bg_in (List.mem_of_getElem? (i := 133) (by decide +kernel)) rfl
theorem wd_134 : (.sameField "HashTree$Branch" "HashTree$Node" "level" "I" : Cond) ∈ bg := bg_in (List.mem_of_getElem? (i := 134) (by decide +kernel)) rfl
theorem wd_135 : (.fieldLink "HashTree" 163 "HashTree$Node" "level" "I" : Cond) ∈ bg := bg_in (List.mem_of_getElem? (i := 135) (by decide +kernel)) rfl
theorem wd_136 : (.fieldLink "HashTree$Node" 9 "HashTree$Node" "hash" "[J" : Cond) ∈ bg := bg_in (List.mem_of_getElem? (i := 136) (by decide +kernel)) rfl
theorem wd_137 : (.fieldLink "HashTree" 104 "HashTree$Node" "hash" "[J" : Cond) ∈ bg := bg_in (List.mem_of_getElem? (i := 137) (by decide +kernel)) rfl
theorem wd_138 : (.fieldLink "HashTree$Node" 15 "HashTree$Node" "fresh" "Z" : Cond) ∈ bg := bg_in (List.mem_of_getElem? (i := 138) (by decide +kernel)) rfl
theorem wd_139 : (.fieldLink "HashTree" 58 "HashTree$Leaf" "fresh" "Z" : Cond) ∈ bg := bg_in (List.mem_of_getElem? (i := 139) (by decide +kernel)) rfl
theorem wd_140 : (.sameField "HashTree$Leaf" "HashTree$Node" "fresh" "Z" : Cond) ∈ bg := bg_in (List.mem_of_getElem? (i := 140) (by decide +kernel)) rfl
theorem wd_141 : (.fieldLink "HashTree$Branch" 16 "HashTree$Node" "fresh" "Z" : Cond) ∈ bg := bg_in (List.mem_of_getElem? (i := 141) (by decide +kernel)) rfl
theorem wd_142 : (.fieldLink "HashTree" 92 "HashTree$Node" "fresh" "Z" : Cond) ∈ bg := bg_in (List.mem_of_getElem? (i := 142) (by decide +kernel)) rfl
theorem wd_143 : (.fieldLink "HashTree" 151 "HashTree$Branch" "fresh" "Z" : Cond) ∈ bg := bg_in (List.mem_of_getElem? (i := 143) (by decide +kernel)) rfl
theorem wd_144 : (.sameField "HashTree$Branch" "HashTree$Node" "fresh" "Z" : Cond) ∈ bg := bg_in (List.mem_of_getElem? (i := 144) (by decide +kernel)) rfl
theorem wd_145 : (.laysFinal "HashTree$Leaf" "HashTree$Leaf" "value" "[J" : Cond) ∈ bg := bg_in (List.mem_of_getElem? (i := 145) (by decide +kernel)) rfl
theorem wd_147 : (.laysFinal "HashTree$Leaf" "HashTree$Node" "key" "[J" : Cond) ∈ bg := bg_in (List.mem_of_getElem? (i := 147) (by decide +kernel)) rfl
theorem wd_149 : (.laysFinal "HashTree$Leaf" "HashTree$Node" "level" "I" : Cond) ∈ bg := bg_in (List.mem_of_getElem? (i := 149) (by decide +kernel)) rfl
theorem wd_151 : (.laysFinal "HashTree$Leaf" "HashTree$Node" "hash" "[J" : Cond) ∈ bg := bg_in (List.mem_of_getElem? (i := 151) (by decide +kernel)) rfl
theorem wd_153 : (.lays "HashTree$Leaf" "HashTree$Node" "fresh" "Z" : Cond) ∈ bg := bg_in (List.mem_of_getElem? (i := 153) (by decide +kernel)) rfl
theorem wd_156 : (.methodLink "HashTree" 75 y_X_insert : Cond) ∈ bg := bg_in (List.mem_of_getElem? (i := 156) (by decide +kernel)) rfl
theorem wd_158 : (.instanceMethod y_X_insert : Cond) ∈ bg := bg_in (List.mem_of_getElem? (i := 158) (by decide +kernel)) rfl
theorem wc_X_insert : (.code y_X_insert b_X_insert 7 none : Cond) ∈ bg := bg_in (List.mem_of_getElem? (i := 159) (by decide +kernel)) rfl
def ws_X_insert : List Cond := .code y_X_insert b_X_insert 7 none :: bg
theorem g_X_insert : GoodIn bg ws_X_insert := fun w h => (List.mem_cons.mp h).elim (fun e => e ▸ bg_good _ wc_X_insert) (bg_good w)
theorem wd_160 : (.instantiable "HashTree$Branch" 6 : Cond) ∈ bg := bg_in (List.mem_of_getElem? (i := 160) (by decide +kernel)) rfl
theorem wd_161 : (.methodLink "HashTree" 152 y_B_init : Cond) ∈ bg := bg_in (List.mem_of_getElem? (i := 161) (by decide +kernel)) rfl
theorem wd_162 : (.instanceMethod y_B_init : Cond) ∈ bg := bg_in (List.mem_of_getElem? (i := 162) (by decide +kernel)) rfl
theorem wc_B_init : (.code y_B_init b_B_init 5 none : Cond) ∈ bg := bg_in (List.mem_of_getElem? (i := 163) (by decide +kernel)) rfl
def ws_B_init : List Cond := .code y_B_init b_B_init 5 none :: bg
theorem g_B_init : GoodIn bg ws_B_init := fun w h => (List.mem_cons.mp h).elim (fun e => e ▸ bg_good _ wc_B_init) (bg_good w)
theorem wd_164 : (.methodLink "HashTree$Branch" 1 y_N_init : Cond) ∈ bg := bg_in (List.mem_of_getElem? (i := 164) (by decide +kernel)) rfl
theorem wd_165 : (.fieldLink "HashTree$Branch" 7 "HashTree$Branch" "zero" "LHashTree$Node;" : Cond) ∈ bg := bg_in (List.mem_of_getElem? (i := 165) (by decide +kernel)) rfl
theorem wd_166 : (.fieldLink "HashTree" 168 "HashTree$Branch" "zero" "LHashTree$Node;" : Cond) ∈ bg := bg_in (List.mem_of_getElem? (i := 166) (by decide +kernel)) rfl
theorem wd_167 : (.fieldLink "HashTree$Branch" 13 "HashTree$Branch" "one" "LHashTree$Node;" : Cond) ∈ bg := bg_in (List.mem_of_getElem? (i := 167) (by decide +kernel)) rfl
theorem wd_168 : (.fieldLink "HashTree" 171 "HashTree$Branch" "one" "LHashTree$Node;" : Cond) ∈ bg := bg_in (List.mem_of_getElem? (i := 168) (by decide +kernel)) rfl
theorem wd_169 : (.lays "HashTree$Branch" "HashTree$Branch" "zero" "LHashTree$Node;" : Cond) ∈ bg := bg_in (List.mem_of_getElem? (i := 169) (by decide +kernel)) rfl
theorem wd_171 : (.lays "HashTree$Branch" "HashTree$Branch" "one" "LHashTree$Node;" : Cond) ∈ bg := bg_in (List.mem_of_getElem? (i := 171) (by decide +kernel)) rfl
theorem wd_173 : (.laysFinal "HashTree$Branch" "HashTree$Node" "key" "[J" : Cond) ∈ bg := bg_in (List.mem_of_getElem? (i := 173) (by decide +kernel)) rfl
theorem wd_174 : (.laysFinal "HashTree$Branch" "HashTree$Node" "level" "I" : Cond) ∈ bg := bg_in (List.mem_of_getElem? (i := 174) (by decide +kernel)) rfl
theorem wd_175 : (.laysFinal "HashTree$Branch" "HashTree$Node" "hash" "[J" : Cond) ∈ bg := bg_in (List.mem_of_getElem? (i := 175) (by decide +kernel)) rfl
theorem wd_176 : (.lays "HashTree$Branch" "HashTree$Node" "fresh" "Z" : Cond) ∈ bg := bg_in (List.mem_of_getElem? (i := 176) (by decide +kernel)) rfl
theorem wd_178 : (.methodLink "HashTree" 93 y_X_hang : Cond) ∈ bg := bg_in (List.mem_of_getElem? (i := 178) (by decide +kernel)) rfl
theorem wd_180 : (.instanceMethod y_X_hang : Cond) ∈ bg := bg_in (List.mem_of_getElem? (i := 180) (by decide +kernel)) rfl
theorem wc_X_hang : (.code y_X_hang b_X_hang 3 none : Cond) ∈ bg := bg_in (List.mem_of_getElem? (i := 181) (by decide +kernel)) rfl
def ws_X_hang : List Cond := .code y_X_hang b_X_hang 3 none :: bg
theorem g_X_hang : GoodIn bg ws_X_hang := fun w h => (List.mem_cons.mp h).elim (fun e => e ▸ bg_good _ wc_X_hang) (bg_good w)
theorem wd_182 : (.methodLink "HashTree" 155 y_B_putHalf : Cond) ∈ bg := bg_in (List.mem_of_getElem? (i := 182) (by decide +kernel)) rfl
theorem wd_183 : (.instanceMethod y_B_putHalf : Cond) ∈ bg := bg_in (List.mem_of_getElem? (i := 183) (by decide +kernel)) rfl
theorem wd_184 : (.selects "HashTree$Branch" y_B_putHalf y_B_putHalf : Cond) ∈ bg := bg_in (List.mem_of_getElem? (i := 184) (by decide +kernel)) rfl
theorem wc_B_putHalf : (.code y_B_putHalf b_B_putHalf 3 none : Cond) ∈ bg := bg_in (List.mem_of_getElem? (i := 185) (by decide +kernel)) rfl
def ws_B_putHalf : List Cond := .code y_B_putHalf b_B_putHalf 3 none :: bg
theorem g_B_putHalf : GoodIn bg ws_B_putHalf := fun w h => (List.mem_cons.mp h).elim (fun e => e ▸ bg_good _ wc_B_putHalf) (bg_good w)
theorem wd_186 : (.methodLink "HashTreeLaw" 25 y_X_remove : Cond) ∈ bg := bg_in (List.mem_of_getElem? (i := 186) (by decide +kernel)) rfl
theorem wd_187 : (.instanceMethod y_X_remove : Cond) ∈ bg := bg_in (List.mem_of_getElem? (i := 187) (by decide +kernel)) rfl
theorem wd_188 : (.selects "HashTree" y_X_remove y_X_remove : Cond) ∈ bg := bg_in (List.mem_of_getElem? (i := 188) (by decide +kernel)) rfl
theorem wc_X_remove : (.code y_X_remove b_X_remove 3 (some .int) : Cond) ∈ bg := bg_in (List.mem_of_getElem? (i := 189) (by decide +kernel)) rfl
def ws_X_remove : List Cond := .code y_X_remove b_X_remove 3 (some .int) :: bg
theorem g_X_remove : GoodIn bg ws_X_remove := fun w h => (List.mem_cons.mp h).elim (fun e => e ▸ bg_good _ wc_X_remove) (bg_good w)
theorem wd_190 : (.methodLink "HashTreeLaw" 30 y_X_has : Cond) ∈ bg := bg_in (List.mem_of_getElem? (i := 190) (by decide +kernel)) rfl
theorem wd_191 : (.instanceMethod y_X_has : Cond) ∈ bg := bg_in (List.mem_of_getElem? (i := 191) (by decide +kernel)) rfl
theorem wd_192 : (.selects "HashTree" y_X_has y_X_has : Cond) ∈ bg := bg_in (List.mem_of_getElem? (i := 192) (by decide +kernel)) rfl
theorem wc_X_has : (.code y_X_has b_X_has 1 (some .boolean) : Cond) ∈ bg := bg_in (List.mem_of_getElem? (i := 193) (by decide +kernel)) rfl
def ws_X_has : List Cond := .code y_X_has b_X_has 1 (some .boolean) :: bg
theorem g_X_has : GoodIn bg ws_X_has := fun w h => (List.mem_cons.mp h).elim (fun e => e ▸ bg_good _ wc_X_has) (bg_good w)
theorem wd_194 : (.methodLink "HashTreeLaw" 35 y_X_value : Cond) ∈ bg := bg_in (List.mem_of_getElem? (i := 194) (by decide +kernel)) rfl
theorem wd_195 : (.instanceMethod y_X_value : Cond) ∈ bg := bg_in (List.mem_of_getElem? (i := 195) (by decide +kernel)) rfl
theorem wd_196 : (.selects "HashTree" y_X_value y_X_value : Cond) ∈ bg := bg_in (List.mem_of_getElem? (i := 196) (by decide +kernel)) rfl
theorem wc_X_value : (.code y_X_value b_X_value 3 (some .long) : Cond) ∈ bg := bg_in (List.mem_of_getElem? (i := 197) (by decide +kernel)) rfl
def ws_X_value : List Cond := .code y_X_value b_X_value 3 (some .long) :: bg
theorem g_X_value : GoodIn bg ws_X_value := fun w h => (List.mem_cons.mp h).elim (fun e => e ▸ bg_good _ wc_X_value) (bg_good w)
theorem wd_198 : (.methodLink "HashTree" 97 y_X_isNumber : Cond) ∈ bg := bg_in (List.mem_of_getElem? (i := 198) (by decide +kernel)) rfl
theorem wd_199 : (.static y_X_isNumber : Cond) ∈ bg := bg_in (List.mem_of_getElem? (i := 199) (by decide +kernel)) rfl
theorem wc_X_isNumber : (.code y_X_isNumber b_X_isNumber 1 (some .boolean) : Cond) ∈ bg := bg_in (List.mem_of_getElem? (i := 200) (by decide +kernel)) rfl
def ws_X_isNumber : List Cond := .code y_X_isNumber b_X_isNumber 1 (some .boolean) :: bg
theorem g_X_isNumber : GoodIn bg ws_X_isNumber := fun w h => (List.mem_cons.mp h).elim (fun e => e ▸ bg_good _ wc_X_isNumber) (bg_good w)
theorem wd_201 : (.methodLink "HashTreeLaw" 40 y_X_count : Cond) ∈ bg := bg_in (List.mem_of_getElem? (i := 201) (by decide +kernel)) rfl
theorem wd_202 : (.instanceMethod y_X_count : Cond) ∈ bg := bg_in (List.mem_of_getElem? (i := 202) (by decide +kernel)) rfl
theorem wd_203 : (.selects "HashTree" y_X_count y_X_count : Cond) ∈ bg := bg_in (List.mem_of_getElem? (i := 203) (by decide +kernel)) rfl
theorem wc_X_count : (.code y_X_count b_X_count 1 (some .int) : Cond) ∈ bg := bg_in (List.mem_of_getElem? (i := 204) (by decide +kernel)) rfl
def ws_X_count : List Cond := .code y_X_count b_X_count 1 (some .int) :: bg
theorem g_X_count : GoodIn bg ws_X_count := fun w h => (List.mem_cons.mp h).elim (fun e => e ▸ bg_good _ wc_X_count) (bg_good w)
theorem wd_205 : (.methodLink "HashTreeLaw" 44 y_X_root : Cond) ∈ bg := bg_in (List.mem_of_getElem? (i := 205) (by decide +kernel)) rfl
theorem wd_206 : (.instanceMethod y_X_root : Cond) ∈ bg := bg_in (List.mem_of_getElem? (i := 206) (by decide +kernel)) rfl
theorem wd_207 : (.selects "HashTree" y_X_root y_X_root : Cond) ∈ bg := bg_in (List.mem_of_getElem? (i := 207) (by decide +kernel)) rfl
theorem wc_X_root : (.code y_X_root b_X_root 2 (some .long) : Cond) ∈ bg := bg_in (List.mem_of_getElem? (i := 208) (by decide +kernel)) rfl
def ws_X_root : List Cond := .code y_X_root b_X_root 2 (some .long) :: bg
theorem g_X_root : GoodIn bg ws_X_root := fun w h => (List.mem_cons.mp h).elim (fun e => e ▸ bg_good _ wc_X_root) (bg_good w)
theorem wd_209 : (.methodLink "HashTree" 101 y_X_refresh : Cond) ∈ bg := bg_in (List.mem_of_getElem? (i := 209) (by decide +kernel)) rfl
theorem wd_211 : (.instanceMethod y_X_refresh : Cond) ∈ bg := bg_in (List.mem_of_getElem? (i := 211) (by decide +kernel)) rfl
theorem wc_X_refresh : (.code y_X_refresh b_X_refresh 6 none : Cond) ∈ bg := bg_in (List.mem_of_getElem? (i := 212) (by decide +kernel)) rfl
def ws_X_refresh : List Cond := .code y_X_refresh b_X_refresh 6 none :: bg
theorem g_X_refresh : GoodIn bg ws_X_refresh := fun w h => (List.mem_cons.mp h).elim (fun e => e ▸ bg_good _ wc_X_refresh) (bg_good w)
theorem wd_213 : (.methodLink "HashTree" 159 y_B_staleHalf : Cond) ∈ bg := bg_in (List.mem_of_getElem? (i := 213) (by decide +kernel)) rfl
theorem wd_214 : (.instanceMethod y_B_staleHalf : Cond) ∈ bg := bg_in (List.mem_of_getElem? (i := 214) (by decide +kernel)) rfl
theorem wd_215 : (.selects "HashTree$Branch" y_B_staleHalf y_B_staleHalf : Cond) ∈ bg := bg_in (List.mem_of_getElem? (i := 215) (by decide +kernel)) rfl
theorem wc_B_staleHalf : (.code y_B_staleHalf b_B_staleHalf 1 (some (.object "HashTree$Node")) : Cond) ∈ bg := bg_in (List.mem_of_getElem? (i := 216) (by decide +kernel)) rfl
def ws_B_staleHalf : List Cond := .code y_B_staleHalf b_B_staleHalf 1 (some (.object "HashTree$Node")) :: bg
theorem g_B_staleHalf : GoodIn bg ws_B_staleHalf := fun w h => (List.mem_cons.mp h).elim (fun e => e ▸ bg_good _ wc_B_staleHalf) (bg_good w)
theorem wd_217 : (.methodLink "HashTree" 124 y_X_hashAt : Cond) ∈ bg := bg_in (List.mem_of_getElem? (i := 217) (by decide +kernel)) rfl
theorem wd_219 : (.instanceMethod y_X_hashAt : Cond) ∈ bg := bg_in (List.mem_of_getElem? (i := 219) (by decide +kernel)) rfl
theorem wc_X_hashAt : (.code y_X_hashAt b_X_hashAt 8 none : Cond) ∈ bg := bg_in (List.mem_of_getElem? (i := 220) (by decide +kernel)) rfl
def ws_X_hashAt : List Cond := .code y_X_hashAt b_X_hashAt 8 none :: bg
theorem g_X_hashAt : GoodIn bg ws_X_hashAt := fun w h => (List.mem_cons.mp h).elim (fun e => e ▸ bg_good _ wc_X_hashAt) (bg_good w)
theorem wd_221 : (.methodLink "HashTree" 164 y_D_join : Cond) ∈ bg := bg_in (List.mem_of_getElem? (i := 221) (by decide +kernel)) rfl
theorem wd_222 : (.instanceMethod y_D_join : Cond) ∈ bg := bg_in (List.mem_of_getElem? (i := 222) (by decide +kernel)) rfl
theorem wd_223 : (.selects "HashTree$Digester" y_D_join y_D_join : Cond) ∈ bg := bg_in (List.mem_of_getElem? (i := 223) (by decide +kernel)) rfl
theorem wc_D_join : (.code y_D_join b_D_join 6 none : Cond) ∈ bg := bg_in (List.mem_of_getElem? (i := 224) (by decide +kernel)) rfl
def ws_D_join : List Cond := .code y_D_join b_D_join 6 none :: bg
theorem g_D_join : GoodIn bg ws_D_join := fun w h => (List.mem_cons.mp h).elim (fun e => e ▸ bg_good _ wc_D_join) (bg_good w)
theorem wd_225 : (.methodLink "HashTree$Digester" 45 y_D_begin : Cond) ∈ bg := bg_in (List.mem_of_getElem? (i := 225) (by decide +kernel)) rfl
theorem wd_226 : (.instanceMethod y_D_begin : Cond) ∈ bg := bg_in (List.mem_of_getElem? (i := 226) (by decide +kernel)) rfl
theorem wd_227 : (.selects "HashTree$Digester" y_D_begin y_D_begin : Cond) ∈ bg := bg_in (List.mem_of_getElem? (i := 227) (by decide +kernel)) rfl
theorem wc_D_begin : (.code y_D_begin b_D_begin 1 none : Cond) ∈ bg := bg_in (List.mem_of_getElem? (i := 228) (by decide +kernel)) rfl
def ws_D_begin : List Cond := .code y_D_begin b_D_begin 1 none :: bg
theorem g_D_begin : GoodIn bg ws_D_begin := fun w h => (List.mem_cons.mp h).elim (fun e => e ▸ bg_good _ wc_D_begin) (bg_good w)
theorem wd_229 : (.fieldLink "HashTree$Digester" 22 "HashTree$Digester" "FIRST_WORDS" "[I" : Cond) ∈ bg := bg_in (List.mem_of_getElem? (i := 229) (by decide +kernel)) rfl
theorem wd_231 : (.methodLink "HashTree$Digester" 25 arraycopyName : Cond) ∈ bg := bg_in (List.mem_of_getElem? (i := 231) (by decide +kernel)) rfl
theorem wd_232 : (.static arraycopyName : Cond) ∈ bg := bg_in (List.mem_of_getElem? (i := 232) (by decide +kernel)) rfl
theorem wd_233 : (.native arraycopyName : Cond) ∈ bg := bg_in (List.mem_of_getElem? (i := 233) (by decide +kernel)) rfl
theorem wd_234 : (.methodLink "HashTree$Digester" 37 y_D_take : Cond) ∈ bg := bg_in (List.mem_of_getElem? (i := 234) (by decide +kernel)) rfl
theorem wd_235 : (.instanceMethod y_D_take : Cond) ∈ bg := bg_in (List.mem_of_getElem? (i := 235) (by decide +kernel)) rfl
theorem wd_236 : (.selects "HashTree$Digester" y_D_take y_D_take : Cond) ∈ bg := bg_in (List.mem_of_getElem? (i := 236) (by decide +kernel)) rfl
theorem wc_D_take : (.code y_D_take b_D_take 3 none : Cond) ∈ bg := bg_in (List.mem_of_getElem? (i := 237) (by decide +kernel)) rfl
def ws_D_take : List Cond := .code y_D_take b_D_take 3 none :: bg
theorem g_D_take : GoodIn bg ws_D_take := fun w h => (List.mem_cons.mp h).elim (fun e => e ▸ bg_good _ wc_D_take) (bg_good w)
theorem wd_238 : (.methodLink "HashTree$Digester" 31 y_D_spread : Cond) ∈ bg := bg_in (List.mem_of_getElem? (i := 238) (by decide +kernel)) rfl
theorem wd_240 : (.instanceMethod y_D_spread : Cond) ∈ bg := bg_in (List.mem_of_getElem? (i := 240) (by decide +kernel)) rfl
theorem wc_D_spread : (.code y_D_spread b_D_spread 6 none : Cond) ∈ bg := bg_in (List.mem_of_getElem? (i := 241) (by decide +kernel)) rfl
def ws_D_spread : List Cond := .code y_D_spread b_D_spread 6 none :: bg
theorem g_D_spread : GoodIn bg ws_D_spread := fun w h => (List.mem_cons.mp h).elim (fun e => e ▸ bg_good _ wc_D_spread) (bg_good w)
theorem wd_242 : (.methodLink "HashTree$Digester" 59 y_JI_rotateRight : Cond) ∈ bg := bg_in (List.mem_of_getElem? (i := 242) (by decide +kernel)) rfl
theorem wd_243 : (.static y_JI_rotateRight : Cond) ∈ bg := bg_in (List.mem_of_getElem? (i := 243) (by decide +kernel)) rfl
theorem wc_JI_rotateRight : (.code y_JI_rotateRight b_JI_rotateRight 2 (some .int) : Cond) ∈ bg := bg_in (List.mem_of_getElem? (i := 244) (by decide +kernel)) rfl
def ws_JI_rotateRight : List Cond := .code y_JI_rotateRight b_JI_rotateRight 2 (some .int) :: bg
theorem g_JI_rotateRight : GoodIn bg ws_JI_rotateRight := fun w h => (List.mem_cons.mp h).elim (fun e => e ▸ bg_good _ wc_JI_rotateRight) (bg_good w)
theorem wd_245 : (.methodLink "HashTree$Digester" 34 y_D_mix : Cond) ∈ bg := bg_in (List.mem_of_getElem? (i := 245) (by decide +kernel)) rfl
theorem wd_247 : (.instanceMethod y_D_mix : Cond) ∈ bg := bg_in (List.mem_of_getElem? (i := 247) (by decide +kernel)) rfl
theorem wc_D_mix : (.code y_D_mix b_D_mix 14 none : Cond) ∈ bg := bg_in (List.mem_of_getElem? (i := 248) (by decide +kernel)) rfl
def ws_D_mix : List Cond := .code y_D_mix b_D_mix 14 none :: bg
theorem g_D_mix : GoodIn bg ws_D_mix := fun w h => (List.mem_cons.mp h).elim (fun e => e ▸ bg_good _ wc_D_mix) (bg_good w)
theorem wd_249 : (.fieldLink "HashTree$Digester" 65 "HashTree$Digester" "K" "[I" : Cond) ∈ bg := bg_in (List.mem_of_getElem? (i := 249) (by decide +kernel)) rfl
theorem wd_251 : (.methodLink "HashTree$Digester" 48 y_D_takeLowest : Cond) ∈ bg := bg_in (List.mem_of_getElem? (i := 251) (by decide +kernel)) rfl
theorem wd_252 : (.instanceMethod y_D_takeLowest : Cond) ∈ bg := bg_in (List.mem_of_getElem? (i := 252) (by decide +kernel)) rfl
theorem wd_253 : (.selects "HashTree$Digester" y_D_takeLowest y_D_takeLowest : Cond) ∈ bg := bg_in (List.mem_of_getElem? (i := 253) (by decide +kernel)) rfl
theorem wc_D_takeLowest : (.code y_D_takeLowest b_D_takeLowest 5 none : Cond) ∈ bg := bg_in (List.mem_of_getElem? (i := 254) (by decide +kernel)) rfl
def ws_D_takeLowest : List Cond := .code y_D_takeLowest b_D_takeLowest 5 none :: bg
theorem g_D_takeLowest : GoodIn bg ws_D_takeLowest := fun w h => (List.mem_cons.mp h).elim (fun e => e ▸ bg_good _ wc_D_takeLowest) (bg_good w)
theorem wd_255 : (.methodLink "HashTree$Digester" 52 y_D_finish : Cond) ∈ bg := bg_in (List.mem_of_getElem? (i := 255) (by decide +kernel)) rfl
theorem wd_256 : (.instanceMethod y_D_finish : Cond) ∈ bg := bg_in (List.mem_of_getElem? (i := 256) (by decide +kernel)) rfl
theorem wd_257 : (.selects "HashTree$Digester" y_D_finish y_D_finish : Cond) ∈ bg := bg_in (List.mem_of_getElem? (i := 257) (by decide +kernel)) rfl
theorem wc_D_finish : (.code y_D_finish b_D_finish 5 none : Cond) ∈ bg := bg_in (List.mem_of_getElem? (i := 258) (by decide +kernel)) rfl
def ws_D_finish : List Cond := .code y_D_finish b_D_finish 5 none :: bg
theorem g_D_finish : GoodIn bg ws_D_finish := fun w h => (List.mem_cons.mp h).elim (fun e => e ▸ bg_good _ wc_D_finish) (bg_good w)
theorem wd_259 : (.constantLong "HashTree$Digester" 41 8 : Cond) ∈ bg := bg_in (List.mem_of_getElem? (i := 259) (by decide +kernel)) rfl
theorem wd_260 : (.methodLink "HashTree$Digester" 55 y_D_number : Cond) ∈ bg := bg_in (List.mem_of_getElem? (i := 260) (by decide +kernel)) rfl
theorem wd_261 : (.instanceMethod y_D_number : Cond) ∈ bg := bg_in (List.mem_of_getElem? (i := 261) (by decide +kernel)) rfl
theorem wd_262 : (.selects "HashTree$Digester" y_D_number y_D_number : Cond) ∈ bg := bg_in (List.mem_of_getElem? (i := 262) (by decide +kernel)) rfl
theorem wc_D_number : (.code y_D_number b_D_number 3 (some .long) : Cond) ∈ bg := bg_in (List.mem_of_getElem? (i := 263) (by decide +kernel)) rfl
def ws_D_number : List Cond := .code y_D_number b_D_number 3 (some .long) :: bg
theorem g_D_number : GoodIn bg ws_D_number := fun w h => (List.mem_cons.mp h).elim (fun e => e ▸ bg_good _ wc_D_number) (bg_good w)
theorem wd_264 : (.constantLong "HashTree$Digester" 43 4294967295 : Cond) ∈ bg := bg_in (List.mem_of_getElem? (i := 264) (by decide +kernel)) rfl
theorem wd_265 : (.fieldLink "HashTree" 175 "HashTree" "EMPTY" "[J" : Cond) ∈ bg := bg_in (List.mem_of_getElem? (i := 265) (by decide +kernel)) rfl
theorem wd_267 : (.methodLink "HashTreeLaw" 48 y_X_prove : Cond) ∈ bg := bg_in (List.mem_of_getElem? (i := 267) (by decide +kernel)) rfl
theorem wd_268 : (.instanceMethod y_X_prove : Cond) ∈ bg := bg_in (List.mem_of_getElem? (i := 268) (by decide +kernel)) rfl
theorem wd_269 : (.selects "HashTree" y_X_prove y_X_prove : Cond) ∈ bg := bg_in (List.mem_of_getElem? (i := 269) (by decide +kernel)) rfl
theorem wc_X_prove : (.code y_X_prove b_X_prove 7 (some .int) : Cond) ∈ bg := bg_in (List.mem_of_getElem? (i := 270) (by decide +kernel)) rfl
def ws_X_prove : List Cond := .code y_X_prove b_X_prove 7 (some .int) :: bg
theorem g_X_prove : GoodIn bg ws_X_prove := fun w h => (List.mem_cons.mp h).elim (fun e => e ▸ bg_good _ wc_X_prove) (bg_good w)
theorem wd_271 : (.methodLink "HashTree" 107 y_JA_fill : Cond) ∈ bg := bg_in (List.mem_of_getElem? (i := 271) (by decide +kernel)) rfl
theorem wd_272 : (.static y_JA_fill : Cond) ∈ bg := bg_in (List.mem_of_getElem? (i := 272) (by decide +kernel)) rfl
theorem wc_JA_fill : (.code y_JA_fill b_JA_fill 5 none : Cond) ∈ bg := bg_in (List.mem_of_getElem? (i := 273) (by decide +kernel)) rfl
def ws_JA_fill : List Cond := .code y_JA_fill b_JA_fill 5 none :: bg
theorem g_JA_fill : GoodIn bg ws_JA_fill := fun w h => (List.mem_cons.mp h).elim (fun e => e ▸ bg_good _ wc_JA_fill) (bg_good w)
theorem wd_274 : (.methodLink "HashTree" 120 y_X_keepSibling : Cond) ∈ bg := bg_in (List.mem_of_getElem? (i := 274) (by decide +kernel)) rfl
theorem wd_276 : (.instanceMethod y_X_keepSibling : Cond) ∈ bg := bg_in (List.mem_of_getElem? (i := 276) (by decide +kernel)) rfl
theorem wc_X_keepSibling : (.code y_X_keepSibling b_X_keepSibling 3 none : Cond) ∈ bg := bg_in (List.mem_of_getElem? (i := 277) (by decide +kernel)) rfl
def ws_X_keepSibling : List Cond := .code y_X_keepSibling b_X_keepSibling 3 none :: bg
theorem g_X_keepSibling : GoodIn bg ws_X_keepSibling := fun w h => (List.mem_cons.mp h).elim (fun e => e ▸ bg_good _ wc_X_keepSibling) (bg_good w)
theorem wd_278 : (.methodLink "HashTree" 178 arraycopyName : Cond) ∈ bg := bg_in (List.mem_of_getElem? (i := 278) (by decide +kernel)) rfl
theorem wd_279 : (.methodLink "HashTree" 128 y_X_keepEnd : Cond) ∈ bg := bg_in (List.mem_of_getElem? (i := 279) (by decide +kernel)) rfl
theorem wd_281 : (.instanceMethod y_X_keepEnd : Cond) ∈ bg := bg_in (List.mem_of_getElem? (i := 281) (by decide +kernel)) rfl
theorem wc_X_keepEnd : (.code y_X_keepEnd b_X_keepEnd 2 none : Cond) ∈ bg := bg_in (List.mem_of_getElem? (i := 282) (by decide +kernel)) rfl
def ws_X_keepEnd : List Cond := .code y_X_keepEnd b_X_keepEnd 2 none :: bg
theorem g_X_keepEnd : GoodIn bg ws_X_keepEnd := fun w h => (List.mem_cons.mp h).elim (fun e => e ▸ bg_good _ wc_X_keepEnd) (bg_good w)
theorem wd_283 : (.methodLink "HashTreeLaw" 52 y_X_sibling : Cond) ∈ bg := bg_in (List.mem_of_getElem? (i := 283) (by decide +kernel)) rfl
theorem wd_284 : (.instanceMethod y_X_sibling : Cond) ∈ bg := bg_in (List.mem_of_getElem? (i := 284) (by decide +kernel)) rfl
theorem wd_285 : (.selects "HashTree" y_X_sibling y_X_sibling : Cond) ∈ bg := bg_in (List.mem_of_getElem? (i := 285) (by decide +kernel)) rfl
theorem wc_X_sibling : (.code y_X_sibling b_X_sibling 3 (some .long) : Cond) ∈ bg := bg_in (List.mem_of_getElem? (i := 286) (by decide +kernel)) rfl
def ws_X_sibling : List Cond := .code y_X_sibling b_X_sibling 3 (some .long) :: bg
theorem g_X_sibling : GoodIn bg ws_X_sibling := fun w h => (List.mem_cons.mp h).elim (fun e => e ▸ bg_good _ wc_X_sibling) (bg_good w)
theorem wd_287 : (.methodLink "HashTreeLaw" 57 y_X_ending : Cond) ∈ bg := bg_in (List.mem_of_getElem? (i := 287) (by decide +kernel)) rfl
theorem wd_288 : (.instanceMethod y_X_ending : Cond) ∈ bg := bg_in (List.mem_of_getElem? (i := 288) (by decide +kernel)) rfl
theorem wd_289 : (.selects "HashTree" y_X_ending y_X_ending : Cond) ∈ bg := bg_in (List.mem_of_getElem? (i := 289) (by decide +kernel)) rfl
theorem wc_X_ending : (.code y_X_ending b_X_ending 1 (some .int) : Cond) ∈ bg := bg_in (List.mem_of_getElem? (i := 290) (by decide +kernel)) rfl
def ws_X_ending : List Cond := .code y_X_ending b_X_ending 1 (some .int) :: bg
theorem g_X_ending : GoodIn bg ws_X_ending := fun w h => (List.mem_cons.mp h).elim (fun e => e ▸ bg_good _ wc_X_ending) (bg_good w)
theorem wd_291 : (.methodLink "HashTreeLaw" 61 y_X_endNumber : Cond) ∈ bg := bg_in (List.mem_of_getElem? (i := 291) (by decide +kernel)) rfl
theorem wd_292 : (.instanceMethod y_X_endNumber : Cond) ∈ bg := bg_in (List.mem_of_getElem? (i := 292) (by decide +kernel)) rfl
theorem wd_293 : (.selects "HashTree" y_X_endNumber y_X_endNumber : Cond) ∈ bg := bg_in (List.mem_of_getElem? (i := 293) (by decide +kernel)) rfl
theorem wc_X_endNumber : (.code y_X_endNumber b_X_endNumber 3 (some .long) : Cond) ∈ bg := bg_in (List.mem_of_getElem? (i := 294) (by decide +kernel)) rfl
def ws_X_endNumber : List Cond := .code y_X_endNumber b_X_endNumber 3 (some .long) :: bg
theorem g_X_endNumber : GoodIn bg ws_X_endNumber := fun w h => (List.mem_cons.mp h).elim (fun e => e ▸ bg_good _ wc_X_endNumber) (bg_good w)
theorem wd_295 : (.methodLink "HashTreeLaw" 65 y_X_digest : Cond) ∈ bg := bg_in (List.mem_of_getElem? (i := 295) (by decide +kernel)) rfl
theorem wd_296 : (.instanceMethod y_X_digest : Cond) ∈ bg := bg_in (List.mem_of_getElem? (i := 296) (by decide +kernel)) rfl
theorem wd_297 : (.selects "HashTree" y_X_digest y_X_digest : Cond) ∈ bg := bg_in (List.mem_of_getElem? (i := 297) (by decide +kernel)) rfl
theorem wc_X_digest : (.code y_X_digest b_X_digest 7 (some .long) : Cond) ∈ bg := bg_in (List.mem_of_getElem? (i := 298) (by decide +kernel)) rfl
def ws_X_digest : List Cond := .code y_X_digest b_X_digest 7 (some .long) :: bg
theorem g_X_digest : GoodIn bg ws_X_digest := fun w h => (List.mem_cons.mp h).elim (fun e => e ▸ bg_good _ wc_X_digest) (bg_good w)
theorem wd_299 : (.methodLink "HashTree" 131 y_D_begin : Cond) ∈ bg := bg_in (List.mem_of_getElem? (i := 299) (by decide +kernel)) rfl
theorem wd_300 : (.methodLink "HashTree" 134 y_D_takeLowest : Cond) ∈ bg := bg_in (List.mem_of_getElem? (i := 300) (by decide +kernel)) rfl
theorem wd_301 : (.methodLink "HashTree" 138 y_D_finish : Cond) ∈ bg := bg_in (List.mem_of_getElem? (i := 301) (by decide +kernel)) rfl
theorem wd_302 : (.methodLink "HashTree" 141 y_D_number : Cond) ∈ bg := bg_in (List.mem_of_getElem? (i := 302) (by decide +kernel)) rfl
theorem wd_303 : (.classLink "HashTreeLaw" 10 "HashTreeModel" : Cond) ∈ bg := bg_in (List.mem_of_getElem? (i := 303) (by decide +kernel)) rfl
theorem wd_304 : (.instantiable "HashTreeModel" 22 : Cond) ∈ bg := bg_in (List.mem_of_getElem? (i := 304) (by decide +kernel)) rfl
theorem wd_305 : (.methodLink "HashTreeLaw" 12 y_M_init : Cond) ∈ bg := bg_in (List.mem_of_getElem? (i := 305) (by decide +kernel)) rfl
theorem wd_306 : (.instanceMethod y_M_init : Cond) ∈ bg := bg_in (List.mem_of_getElem? (i := 306) (by decide +kernel)) rfl
theorem wc_M_init : (.code y_M_init b_M_init 1 none : Cond) ∈ bg := bg_in (List.mem_of_getElem? (i := 307) (by decide +kernel)) rfl
def ws_M_init : List Cond := .code y_M_init b_M_init 1 none :: bg
theorem g_M_init : GoodIn bg ws_M_init := fun w h => (List.mem_cons.mp h).elim (fun e => e ▸ bg_good _ wc_M_init) (bg_good w)
theorem wd_308 : (.methodLink "HashTreeModel" 1 objectInit : Cond) ∈ bg := bg_in (List.mem_of_getElem? (i := 308) (by decide +kernel)) rfl
theorem wd_309 : (.constant "HashTreeModel" 52 131072 : Cond) ∈ bg := bg_in (List.mem_of_getElem? (i := 309) (by decide +kernel)) rfl
theorem wd_310 : (.constant "HashTreeModel" 56 65536 : Cond) ∈ bg := bg_in (List.mem_of_getElem? (i := 310) (by decide +kernel)) rfl
theorem wd_311 : (.fieldLink "HashTreeModel" 7 "HashTreeModel" "keys" "[J" : Cond) ∈ bg := bg_in (List.mem_of_getElem? (i := 311) (by decide +kernel)) rfl
theorem wd_312 : (.fieldLink "HashTreeModel" 13 "HashTreeModel" "values" "[J" : Cond) ∈ bg := bg_in (List.mem_of_getElem? (i := 312) (by decide +kernel)) rfl
theorem wd_313 : (.fieldLink "HashTreeModel" 106 "HashTreeModel" "count" "I" : Cond) ∈ bg := bg_in (List.mem_of_getElem? (i := 313) (by decide +kernel)) rfl
theorem wd_314 : (.fieldLink "HashTreeModel" 16 "HashTreeModel" "now" "[J" : Cond) ∈ bg := bg_in (List.mem_of_getElem? (i := 314) (by decide +kernel)) rfl
theorem wd_315 : (.fieldLink "HashTreeModel" 19 "HashTreeModel" "begins" "[I" : Cond) ∈ bg := bg_in (List.mem_of_getElem? (i := 315) (by decide +kernel)) rfl
theorem wd_316 : (.fieldLink "HashTreeModel" 23 "HashTreeModel" "sizes" "[I" : Cond) ∈ bg := bg_in (List.mem_of_getElem? (i := 316) (by decide +kernel)) rfl
theorem wd_317 : (.fieldLink "HashTreeModel" 26 "HashTreeModel" "hashes" "[J" : Cond) ∈ bg := bg_in (List.mem_of_getElem? (i := 317) (by decide +kernel)) rfl
theorem wd_318 : (.fieldLink "HashTreeModel" 140 "HashTreeModel" "nodes" "I" : Cond) ∈ bg := bg_in (List.mem_of_getElem? (i := 318) (by decide +kernel)) rfl
theorem wd_319 : (.fieldLink "HashTreeModel" 29 "HashTreeModel" "root" "[J" : Cond) ∈ bg := bg_in (List.mem_of_getElem? (i := 319) (by decide +kernel)) rfl
theorem wd_320 : (.fieldLink "HashTreeModel" 170 "HashTreeModel" "rooted" "Z" : Cond) ∈ bg := bg_in (List.mem_of_getElem? (i := 320) (by decide +kernel)) rfl
theorem wd_321 : (.fieldLink "HashTreeModel" 32 "HashTreeModel" "siblings" "[J" : Cond) ∈ bg := bg_in (List.mem_of_getElem? (i := 321) (by decide +kernel)) rfl
theorem wd_322 : (.fieldLink "HashTreeModel" 180 "HashTreeModel" "depth" "I" : Cond) ∈ bg := bg_in (List.mem_of_getElem? (i := 322) (by decide +kernel)) rfl
theorem wd_323 : (.fieldLink "HashTreeModel" 35 "HashTreeModel" "ending" "I" : Cond) ∈ bg := bg_in (List.mem_of_getElem? (i := 323) (by decide +kernel)) rfl
theorem wd_324 : (.fieldLink "HashTreeModel" 39 "HashTreeModel" "end" "[J" : Cond) ∈ bg := bg_in (List.mem_of_getElem? (i := 324) (by decide +kernel)) rfl
theorem wd_325 : (.fieldLink "HashTreeModel" 42 "HashTreeModel" "message" "[B" : Cond) ∈ bg := bg_in (List.mem_of_getElem? (i := 325) (by decide +kernel)) rfl
theorem wd_326 : (.fieldLink "HashTreeModel" 46 "HashTreeModel" "words" "[J" : Cond) ∈ bg := bg_in (List.mem_of_getElem? (i := 326) (by decide +kernel)) rfl
theorem wd_327 : (.fieldLink "HashTreeModel" 49 "HashTreeModel" "kept" "[B" : Cond) ∈ bg := bg_in (List.mem_of_getElem? (i := 327) (by decide +kernel)) rfl
theorem wd_328 : (.fieldLink "HashTreeModel" 53 "HashTreeModel" "keptOf" "[J" : Cond) ∈ bg := bg_in (List.mem_of_getElem? (i := 328) (by decide +kernel)) rfl
theorem wd_329 : (.fieldLink "HashTreeModel" 57 "HashTreeModel" "keptDigests" "[J" : Cond) ∈ bg := bg_in (List.mem_of_getElem? (i := 329) (by decide +kernel)) rfl
theorem wd_330 : (.fieldLink "HashTreeModel" 60 "HashTreeModel" "pair" "[J" : Cond) ∈ bg := bg_in (List.mem_of_getElem? (i := 330) (by decide +kernel)) rfl
theorem wd_331 : (.fieldLink "HashTreeModel" 63 "HashTreeModel" "got" "[J" : Cond) ∈ bg := bg_in (List.mem_of_getElem? (i := 331) (by decide +kernel)) rfl
theorem wd_332 : (.fieldLink "HashTreeModel" 66 "HashTreeModel" "schedule" "[J" : Cond) ∈ bg := bg_in (List.mem_of_getElem? (i := 332) (by decide +kernel)) rfl
theorem wd_333 : (.laysFinal "HashTreeModel" "HashTreeModel" "keys" "[J" : Cond) ∈ bg := bg_in (List.mem_of_getElem? (i := 333) (by decide +kernel)) rfl
theorem wd_335 : (.laysFinal "HashTreeModel" "HashTreeModel" "values" "[J" : Cond) ∈ bg := bg_in (List.mem_of_getElem? (i := 335) (by decide +kernel)) rfl
theorem wd_337 : (.lays "HashTreeModel" "HashTreeModel" "count" "I" : Cond) ∈ bg := bg_in (List.mem_of_getElem? (i := 337) (by decide +kernel)) rfl
theorem wd_339 : (.laysFinal "HashTreeModel" "HashTreeModel" "now" "[J" : Cond) ∈ bg := bg_in (List.mem_of_getElem? (i := 339) (by decide +kernel)) rfl
theorem wd_341 : (.laysFinal "HashTreeModel" "HashTreeModel" "begins" "[I" : Cond) ∈ bg := bg_in (List.mem_of_getElem? (i := 341) (by decide +kernel)) rfl
theorem wd_343 : (.laysFinal "HashTreeModel" "HashTreeModel" "sizes" "[I" : Cond) ∈ bg := bg_in (List.mem_of_getElem? (i := 343) (by decide +kernel)) rfl
theorem wd_345 : (.laysFinal "HashTreeModel" "HashTreeModel" "hashes" "[J" : Cond) ∈ bg := bg_in (List.mem_of_getElem? (i := 345) (by decide +kernel)) rfl
theorem wd_347 : (.lays "HashTreeModel" "HashTreeModel" "nodes" "I" : Cond) ∈ bg := bg_in (List.mem_of_getElem? (i := 347) (by decide +kernel)) rfl
theorem wd_349 : (.laysFinal "HashTreeModel" "HashTreeModel" "root" "[J" : Cond) ∈ bg := bg_in (List.mem_of_getElem? (i := 349) (by decide +kernel)) rfl
theorem wd_351 : (.lays "HashTreeModel" "HashTreeModel" "rooted" "Z" : Cond) ∈ bg := bg_in (List.mem_of_getElem? (i := 351) (by decide +kernel)) rfl
theorem wd_353 : (.laysFinal "HashTreeModel" "HashTreeModel" "siblings" "[J" : Cond) ∈ bg := bg_in (List.mem_of_getElem? (i := 353) (by decide +kernel)) rfl
theorem wd_355 : (.lays "HashTreeModel" "HashTreeModel" "depth" "I" : Cond) ∈ bg := bg_in (List.mem_of_getElem? (i := 355) (by decide +kernel)) rfl
theorem wd_357 : (.lays "HashTreeModel" "HashTreeModel" "ending" "I" : Cond) ∈ bg := bg_in (List.mem_of_getElem? (i := 357) (by decide +kernel)) rfl
theorem wd_359 : (.laysFinal "HashTreeModel" "HashTreeModel" "end" "[J" : Cond) ∈ bg := bg_in (List.mem_of_getElem? (i := 359) (by decide +kernel)) rfl
theorem wd_361 : (.laysFinal "HashTreeModel" "HashTreeModel" "message" "[B" : Cond) ∈ bg := bg_in (List.mem_of_getElem? (i := 361) (by decide +kernel)) rfl
theorem wd_363 : (.laysFinal "HashTreeModel" "HashTreeModel" "words" "[J" : Cond) ∈ bg := bg_in (List.mem_of_getElem? (i := 363) (by decide +kernel)) rfl
theorem wd_365 : (.laysFinal "HashTreeModel" "HashTreeModel" "kept" "[B" : Cond) ∈ bg := bg_in (List.mem_of_getElem? (i := 365) (by decide +kernel)) rfl
theorem wd_367 : (.laysFinal "HashTreeModel" "HashTreeModel" "keptOf" "[J" : Cond) ∈ bg := bg_in (List.mem_of_getElem? (i := 367) (by decide +kernel)) rfl
theorem wd_369 : (.laysFinal "HashTreeModel" "HashTreeModel" "keptDigests" "[J" : Cond) ∈ bg := bg_in (List.mem_of_getElem? (i := 369) (by decide +kernel)) rfl
theorem wd_371 : (.laysFinal "HashTreeModel" "HashTreeModel" "pair" "[J" : Cond) ∈ bg := bg_in (List.mem_of_getElem? (i := 371) (by decide +kernel)) rfl
theorem wd_373 : (.laysFinal "HashTreeModel" "HashTreeModel" "got" "[J" : Cond) ∈ bg := bg_in (List.mem_of_getElem? (i := 373) (by decide +kernel)) rfl
theorem wd_375 : (.laysFinal "HashTreeModel" "HashTreeModel" "schedule" "[J" : Cond) ∈ bg := bg_in (List.mem_of_getElem? (i := 375) (by decide +kernel)) rfl
theorem wd_378 : (.arrayClass .byte : Cond) ∈ bg := bg_in (List.mem_of_getElem? (i := 378) (by decide +kernel)) rfl
theorem wd_379 : (.methodLink "HashTreeLaw" 19 y_M_key : Cond) ∈ bg := bg_in (List.mem_of_getElem? (i := 379) (by decide +kernel)) rfl
theorem wd_380 : (.instanceMethod y_M_key : Cond) ∈ bg := bg_in (List.mem_of_getElem? (i := 380) (by decide +kernel)) rfl
theorem wd_381 : (.selects "HashTreeModel" y_M_key y_M_key : Cond) ∈ bg := bg_in (List.mem_of_getElem? (i := 381) (by decide +kernel)) rfl
theorem wc_M_key : (.code y_M_key b_M_key 9 none : Cond) ∈ bg := bg_in (List.mem_of_getElem? (i := 382) (by decide +kernel)) rfl
def ws_M_key : List Cond := .code y_M_key b_M_key 9 none :: bg
theorem g_M_key : GoodIn bg ws_M_key := fun w h => (List.mem_cons.mp h).elim (fun e => e ▸ bg_good _ wc_M_key) (bg_good w)
theorem wd_383 : (.methodLink "HashTreeLaw" 24 y_M_set : Cond) ∈ bg := bg_in (List.mem_of_getElem? (i := 383) (by decide +kernel)) rfl
theorem wd_384 : (.instanceMethod y_M_set : Cond) ∈ bg := bg_in (List.mem_of_getElem? (i := 384) (by decide +kernel)) rfl
theorem wd_385 : (.selects "HashTreeModel" y_M_set y_M_set : Cond) ∈ bg := bg_in (List.mem_of_getElem? (i := 385) (by decide +kernel)) rfl
theorem wc_M_set : (.code y_M_set b_M_set 12 (some .int) : Cond) ∈ bg := bg_in (List.mem_of_getElem? (i := 386) (by decide +kernel)) rfl
def ws_M_set : List Cond := .code y_M_set b_M_set 12 (some .int) :: bg
theorem g_M_set : GoodIn bg ws_M_set := fun w h => (List.mem_cons.mp h).elim (fun e => e ▸ bg_good _ wc_M_set) (bg_good w)
theorem wd_387 : (.methodLink "HashTreeModel" 162 y_M_place : Cond) ∈ bg := bg_in (List.mem_of_getElem? (i := 387) (by decide +kernel)) rfl
theorem wd_389 : (.instanceMethod y_M_place : Cond) ∈ bg := bg_in (List.mem_of_getElem? (i := 389) (by decide +kernel)) rfl
theorem wc_M_place : (.code y_M_place b_M_place 2 (some .int) : Cond) ∈ bg := bg_in (List.mem_of_getElem? (i := 390) (by decide +kernel)) rfl
def ws_M_place : List Cond := .code y_M_place b_M_place 2 (some .int) :: bg
theorem g_M_place : GoodIn bg ws_M_place := fun w h => (List.mem_cons.mp h).elim (fun e => e ▸ bg_good _ wc_M_place) (bg_good w)
theorem wd_391 : (.methodLink "HashTreeModel" 109 y_M_compare : Cond) ∈ bg := bg_in (List.mem_of_getElem? (i := 391) (by decide +kernel)) rfl
theorem wd_392 : (.static y_M_compare : Cond) ∈ bg := bg_in (List.mem_of_getElem? (i := 392) (by decide +kernel)) rfl
theorem wc_M_compare : (.code y_M_compare b_M_compare 5 (some .int) : Cond) ∈ bg := bg_in (List.mem_of_getElem? (i := 393) (by decide +kernel)) rfl
def ws_M_compare : List Cond := .code y_M_compare b_M_compare 5 (some .int) :: bg
theorem g_M_compare : GoodIn bg ws_M_compare := fun w h => (List.mem_cons.mp h).elim (fun e => e ▸ bg_good _ wc_M_compare) (bg_good w)
theorem wd_394 : (.constantLong "HashTreeModel" 104 (-9223372036854775808) : Cond) ∈ bg := bg_in (List.mem_of_getElem? (i := 394) (by decide +kernel)) rfl
theorem wd_395 : (.methodLink "HashTreeModel" 166 y_M_isAt : Cond) ∈ bg := bg_in (List.mem_of_getElem? (i := 395) (by decide +kernel)) rfl
theorem wd_397 : (.instanceMethod y_M_isAt : Cond) ∈ bg := bg_in (List.mem_of_getElem? (i := 397) (by decide +kernel)) rfl
theorem wc_M_isAt : (.code y_M_isAt b_M_isAt 2 (some .boolean) : Cond) ∈ bg := bg_in (List.mem_of_getElem? (i := 398) (by decide +kernel)) rfl
def ws_M_isAt : List Cond := .code y_M_isAt b_M_isAt 2 (some .boolean) :: bg
theorem g_M_isAt : GoodIn bg ws_M_isAt := fun w h => (List.mem_cons.mp h).elim (fun e => e ▸ bg_good _ wc_M_isAt) (bg_good w)
theorem wd_399 : (.methodLink "HashTreeLaw" 29 y_M_remove : Cond) ∈ bg := bg_in (List.mem_of_getElem? (i := 399) (by decide +kernel)) rfl
theorem wd_400 : (.instanceMethod y_M_remove : Cond) ∈ bg := bg_in (List.mem_of_getElem? (i := 400) (by decide +kernel)) rfl
theorem wd_401 : (.selects "HashTreeModel" y_M_remove y_M_remove : Cond) ∈ bg := bg_in (List.mem_of_getElem? (i := 401) (by decide +kernel)) rfl
theorem wc_M_remove : (.code y_M_remove b_M_remove 3 (some .int) : Cond) ∈ bg := bg_in (List.mem_of_getElem? (i := 402) (by decide +kernel)) rfl
def ws_M_remove : List Cond := .code y_M_remove b_M_remove 3 (some .int) :: bg
theorem g_M_remove : GoodIn bg ws_M_remove := fun w h => (List.mem_cons.mp h).elim (fun e => e ▸ bg_good _ wc_M_remove) (bg_good w)
theorem wd_403 : (.methodLink "HashTreeLaw" 34 y_M_has : Cond) ∈ bg := bg_in (List.mem_of_getElem? (i := 403) (by decide +kernel)) rfl
theorem wd_404 : (.instanceMethod y_M_has : Cond) ∈ bg := bg_in (List.mem_of_getElem? (i := 404) (by decide +kernel)) rfl
theorem wd_405 : (.selects "HashTreeModel" y_M_has y_M_has : Cond) ∈ bg := bg_in (List.mem_of_getElem? (i := 405) (by decide +kernel)) rfl
theorem wc_M_has : (.code y_M_has b_M_has 1 (some .boolean) : Cond) ∈ bg := bg_in (List.mem_of_getElem? (i := 406) (by decide +kernel)) rfl
def ws_M_has : List Cond := .code y_M_has b_M_has 1 (some .boolean) :: bg
theorem g_M_has : GoodIn bg ws_M_has := fun w h => (List.mem_cons.mp h).elim (fun e => e ▸ bg_good _ wc_M_has) (bg_good w)
theorem wd_407 : (.methodLink "HashTreeLaw" 39 y_M_value : Cond) ∈ bg := bg_in (List.mem_of_getElem? (i := 407) (by decide +kernel)) rfl
theorem wd_408 : (.instanceMethod y_M_value : Cond) ∈ bg := bg_in (List.mem_of_getElem? (i := 408) (by decide +kernel)) rfl
theorem wd_409 : (.selects "HashTreeModel" y_M_value y_M_value : Cond) ∈ bg := bg_in (List.mem_of_getElem? (i := 409) (by decide +kernel)) rfl
theorem wc_M_value : (.code y_M_value b_M_value 3 (some .long) : Cond) ∈ bg := bg_in (List.mem_of_getElem? (i := 410) (by decide +kernel)) rfl
def ws_M_value : List Cond := .code y_M_value b_M_value 3 (some .long) :: bg
theorem g_M_value : GoodIn bg ws_M_value := fun w h => (List.mem_cons.mp h).elim (fun e => e ▸ bg_good _ wc_M_value) (bg_good w)
theorem wd_411 : (.methodLink "HashTreeModel" 174 y_M_isNumber : Cond) ∈ bg := bg_in (List.mem_of_getElem? (i := 411) (by decide +kernel)) rfl
theorem wd_412 : (.static y_M_isNumber : Cond) ∈ bg := bg_in (List.mem_of_getElem? (i := 412) (by decide +kernel)) rfl
theorem wc_M_isNumber : (.code y_M_isNumber b_M_isNumber 1 (some .boolean) : Cond) ∈ bg := bg_in (List.mem_of_getElem? (i := 413) (by decide +kernel)) rfl
def ws_M_isNumber : List Cond := .code y_M_isNumber b_M_isNumber 1 (some .boolean) :: bg
theorem g_M_isNumber : GoodIn bg ws_M_isNumber := fun w h => (List.mem_cons.mp h).elim (fun e => e ▸ bg_good _ wc_M_isNumber) (bg_good w)
theorem wd_414 : (.methodLink "HashTreeLaw" 43 y_M_count : Cond) ∈ bg := bg_in (List.mem_of_getElem? (i := 414) (by decide +kernel)) rfl
theorem wd_415 : (.instanceMethod y_M_count : Cond) ∈ bg := bg_in (List.mem_of_getElem? (i := 415) (by decide +kernel)) rfl
theorem wd_416 : (.selects "HashTreeModel" y_M_count y_M_count : Cond) ∈ bg := bg_in (List.mem_of_getElem? (i := 416) (by decide +kernel)) rfl
theorem wc_M_count : (.code y_M_count b_M_count 1 (some .int) : Cond) ∈ bg := bg_in (List.mem_of_getElem? (i := 417) (by decide +kernel)) rfl
def ws_M_count : List Cond := .code y_M_count b_M_count 1 (some .int) :: bg
theorem g_M_count : GoodIn bg ws_M_count := fun w h => (List.mem_cons.mp h).elim (fun e => e ▸ bg_good _ wc_M_count) (bg_good w)
theorem wd_418 : (.methodLink "HashTreeLaw" 47 y_M_root : Cond) ∈ bg := bg_in (List.mem_of_getElem? (i := 418) (by decide +kernel)) rfl
theorem wd_419 : (.instanceMethod y_M_root : Cond) ∈ bg := bg_in (List.mem_of_getElem? (i := 419) (by decide +kernel)) rfl
theorem wd_420 : (.selects "HashTreeModel" y_M_root y_M_root : Cond) ∈ bg := bg_in (List.mem_of_getElem? (i := 420) (by decide +kernel)) rfl
theorem wc_M_root : (.code y_M_root b_M_root 3 (some .long) : Cond) ∈ bg := bg_in (List.mem_of_getElem? (i := 421) (by decide +kernel)) rfl
def ws_M_root : List Cond := .code y_M_root b_M_root 3 (some .long) :: bg
theorem g_M_root : GoodIn bg ws_M_root := fun w h => (List.mem_cons.mp h).elim (fun e => e ▸ bg_good _ wc_M_root) (bg_good w)
theorem wd_422 : (.methodLink "HashTreeModel" 177 y_M_hash : Cond) ∈ bg := bg_in (List.mem_of_getElem? (i := 422) (by decide +kernel)) rfl
theorem wd_424 : (.instanceMethod y_M_hash : Cond) ∈ bg := bg_in (List.mem_of_getElem? (i := 424) (by decide +kernel)) rfl
theorem wc_M_hash : (.code y_M_hash b_M_hash 5 none : Cond) ∈ bg := bg_in (List.mem_of_getElem? (i := 425) (by decide +kernel)) rfl
def ws_M_hash : List Cond := .code y_M_hash b_M_hash 5 none :: bg
theorem g_M_hash : GoodIn bg ws_M_hash := fun w h => (List.mem_cons.mp h).elim (fun e => e ▸ bg_good _ wc_M_hash) (bg_good w)
theorem wd_426 : (.methodLink "HashTreeModel" 143 y_M_leaf : Cond) ∈ bg := bg_in (List.mem_of_getElem? (i := 426) (by decide +kernel)) rfl
theorem wd_428 : (.instanceMethod y_M_leaf : Cond) ∈ bg := bg_in (List.mem_of_getElem? (i := 428) (by decide +kernel)) rfl
theorem wc_M_leaf : (.code y_M_leaf b_M_leaf 4 none : Cond) ∈ bg := bg_in (List.mem_of_getElem? (i := 429) (by decide +kernel)) rfl
def ws_M_leaf : List Cond := .code y_M_leaf b_M_leaf 4 none :: bg
theorem g_M_leaf : GoodIn bg ws_M_leaf := fun w h => (List.mem_cons.mp h).elim (fun e => e ▸ bg_good _ wc_M_leaf) (bg_good w)
theorem wd_430 : (.methodLink "HashTreeModel" 136 y_M_join : Cond) ∈ bg := bg_in (List.mem_of_getElem? (i := 430) (by decide +kernel)) rfl
theorem wd_432 : (.instanceMethod y_M_join : Cond) ∈ bg := bg_in (List.mem_of_getElem? (i := 432) (by decide +kernel)) rfl
theorem wc_M_join : (.code y_M_join b_M_join 11 none : Cond) ∈ bg := bg_in (List.mem_of_getElem? (i := 433) (by decide +kernel)) rfl
def ws_M_join : List Cond := .code y_M_join b_M_join 11 none :: bg
theorem g_M_join : GoodIn bg ws_M_join := fun w h => (List.mem_cons.mp h).elim (fun e => e ▸ bg_good _ wc_M_join) (bg_good w)
theorem wd_434 : (.constantLong "HashTreeModel" 113 31 : Cond) ∈ bg := bg_in (List.mem_of_getElem? (i := 434) (by decide +kernel)) rfl
theorem wd_435 : (.constantLong "HashTreeModel" 115 17 : Cond) ∈ bg := bg_in (List.mem_of_getElem? (i := 435) (by decide +kernel)) rfl
theorem wd_436 : (.constantLong "HashTreeModel" 117 16384 : Cond) ∈ bg := bg_in (List.mem_of_getElem? (i := 436) (by decide +kernel)) rfl
theorem wd_437 : (.methodLink "HashTreeModel" 119 y_JM_floorMod : Cond) ∈ bg := bg_in (List.mem_of_getElem? (i := 437) (by decide +kernel)) rfl
theorem wd_438 : (.static y_JM_floorMod : Cond) ∈ bg := bg_in (List.mem_of_getElem? (i := 438) (by decide +kernel)) rfl
theorem wc_JM_floorMod : (.code y_JM_floorMod b_JM_floorMod 6 (some .long) : Cond) ∈ bg := bg_in (List.mem_of_getElem? (i := 439) (by decide +kernel)) rfl
def ws_JM_floorMod : List Cond := .code y_JM_floorMod b_JM_floorMod 6 (some .long) :: bg
theorem g_JM_floorMod : GoodIn bg ws_JM_floorMod := fun w h => (List.mem_cons.mp h).elim (fun e => e ▸ bg_good _ wc_JM_floorMod) (bg_good w)
theorem wd_440 : (.methodLink "HashTreeModel" 125 y_M_put : Cond) ∈ bg := bg_in (List.mem_of_getElem? (i := 440) (by decide +kernel)) rfl
theorem wd_442 : (.instanceMethod y_M_put : Cond) ∈ bg := bg_in (List.mem_of_getElem? (i := 442) (by decide +kernel)) rfl
theorem wc_M_put : (.code y_M_put b_M_put 5 none : Cond) ∈ bg := bg_in (List.mem_of_getElem? (i := 443) (by decide +kernel)) rfl
def ws_M_put : List Cond := .code y_M_put b_M_put 5 none :: bg
theorem g_M_put : GoodIn bg ws_M_put := fun w h => (List.mem_cons.mp h).elim (fun e => e ▸ bg_good _ wc_M_put) (bg_good w)
theorem wd_444 : (.methodLink "HashTreeModel" 129 y_M_digestOf : Cond) ∈ bg := bg_in (List.mem_of_getElem? (i := 444) (by decide +kernel)) rfl
theorem wd_446 : (.instanceMethod y_M_digestOf : Cond) ∈ bg := bg_in (List.mem_of_getElem? (i := 446) (by decide +kernel)) rfl
theorem wc_M_digestOf : (.code y_M_digestOf b_M_digestOf 4 none : Cond) ∈ bg := bg_in (List.mem_of_getElem? (i := 447) (by decide +kernel)) rfl
def ws_M_digestOf : List Cond := .code y_M_digestOf b_M_digestOf 4 none :: bg
theorem g_M_digestOf : GoodIn bg ws_M_digestOf := fun w h => (List.mem_cons.mp h).elim (fun e => e ▸ bg_good _ wc_M_digestOf) (bg_good w)
theorem wd_448 : (.constantLong "HashTreeModel" 71 1779033703 : Cond) ∈ bg := bg_in (List.mem_of_getElem? (i := 448) (by decide +kernel)) rfl
theorem wd_449 : (.constantLong "HashTreeModel" 73 3144134277 : Cond) ∈ bg := bg_in (List.mem_of_getElem? (i := 449) (by decide +kernel)) rfl
theorem wd_450 : (.constantLong "HashTreeModel" 75 1013904242 : Cond) ∈ bg := bg_in (List.mem_of_getElem? (i := 450) (by decide +kernel)) rfl
theorem wd_451 : (.constantLong "HashTreeModel" 77 2773480762 : Cond) ∈ bg := bg_in (List.mem_of_getElem? (i := 451) (by decide +kernel)) rfl
theorem wd_452 : (.constantLong "HashTreeModel" 79 1359893119 : Cond) ∈ bg := bg_in (List.mem_of_getElem? (i := 452) (by decide +kernel)) rfl
theorem wd_453 : (.constantLong "HashTreeModel" 81 2600822924 : Cond) ∈ bg := bg_in (List.mem_of_getElem? (i := 453) (by decide +kernel)) rfl
theorem wd_454 : (.constantLong "HashTreeModel" 83 528734635 : Cond) ∈ bg := bg_in (List.mem_of_getElem? (i := 454) (by decide +kernel)) rfl
theorem wd_455 : (.constantLong "HashTreeModel" 85 1541459225 : Cond) ∈ bg := bg_in (List.mem_of_getElem? (i := 455) (by decide +kernel)) rfl
theorem wd_456 : (.constantLong "HashTreeModel" 87 8 : Cond) ∈ bg := bg_in (List.mem_of_getElem? (i := 456) (by decide +kernel)) rfl
theorem wd_457 : (.methodLink "HashTreeModel" 89 y_M_block : Cond) ∈ bg := bg_in (List.mem_of_getElem? (i := 457) (by decide +kernel)) rfl
theorem wd_459 : (.instanceMethod y_M_block : Cond) ∈ bg := bg_in (List.mem_of_getElem? (i := 459) (by decide +kernel)) rfl
theorem wc_M_block : (.code y_M_block b_M_block 23 none : Cond) ∈ bg := bg_in (List.mem_of_getElem? (i := 460) (by decide +kernel)) rfl
def ws_M_block : List Cond := .code y_M_block b_M_block 23 none :: bg
theorem g_M_block : GoodIn bg ws_M_block := fun w h => (List.mem_cons.mp h).elim (fun e => e ▸ bg_good _ wc_M_block) (bg_good w)
theorem wd_461 : (.constantLong "HashTreeModel" 93 256 : Cond) ∈ bg := bg_in (List.mem_of_getElem? (i := 461) (by decide +kernel)) rfl
theorem wd_462 : (.methodLink "HashTreeModel" 95 y_M_turned : Cond) ∈ bg := bg_in (List.mem_of_getElem? (i := 462) (by decide +kernel)) rfl
theorem wd_463 : (.static y_M_turned : Cond) ∈ bg := bg_in (List.mem_of_getElem? (i := 463) (by decide +kernel)) rfl
theorem wc_M_turned : (.code y_M_turned b_M_turned 3 (some .long) : Cond) ∈ bg := bg_in (List.mem_of_getElem? (i := 464) (by decide +kernel)) rfl
def ws_M_turned : List Cond := .code y_M_turned b_M_turned 3 (some .long) :: bg
theorem g_M_turned : GoodIn bg ws_M_turned := fun w h => (List.mem_cons.mp h).elim (fun e => e ▸ bg_good _ wc_M_turned) (bg_good w)
theorem wd_465 : (.constantLong "HashTreeModel" 69 4294967295 : Cond) ∈ bg := bg_in (List.mem_of_getElem? (i := 465) (by decide +kernel)) rfl
theorem wd_466 : (.fieldLink "HashTreeModel" 99 "HashTreeModel" "CONSTANTS" "[J" : Cond) ∈ bg := bg_in (List.mem_of_getElem? (i := 466) (by decide +kernel)) rfl
theorem wd_468 : (.methodLink "HashTreeModel" 132 y_M_wordPair : Cond) ∈ bg := bg_in (List.mem_of_getElem? (i := 468) (by decide +kernel)) rfl
theorem wd_470 : (.instanceMethod y_M_wordPair : Cond) ∈ bg := bg_in (List.mem_of_getElem? (i := 470) (by decide +kernel)) rfl
theorem wc_M_wordPair : (.code y_M_wordPair b_M_wordPair 2 (some .long) : Cond) ∈ bg := bg_in (List.mem_of_getElem? (i := 471) (by decide +kernel)) rfl
def ws_M_wordPair : List Cond := .code y_M_wordPair b_M_wordPair 2 (some .long) :: bg
theorem g_M_wordPair : GoodIn bg ws_M_wordPair := fun w h => (List.mem_cons.mp h).elim (fun e => e ▸ bg_good _ wc_M_wordPair) (bg_good w)
theorem wd_472 : (.methodLink "HashTreeModel" 147 y_M_step : Cond) ∈ bg := bg_in (List.mem_of_getElem? (i := 472) (by decide +kernel)) rfl
theorem wd_474 : (.instanceMethod y_M_step : Cond) ∈ bg := bg_in (List.mem_of_getElem? (i := 474) (by decide +kernel)) rfl
theorem wc_M_step : (.code y_M_step b_M_step 8 none : Cond) ∈ bg := bg_in (List.mem_of_getElem? (i := 475) (by decide +kernel)) rfl
def ws_M_step : List Cond := .code y_M_step b_M_step 8 none :: bg
theorem g_M_step : GoodIn bg ws_M_step := fun w h => (List.mem_cons.mp h).elim (fun e => e ▸ bg_good _ wc_M_step) (bg_good w)
theorem wd_476 : (.methodLink "HashTreeModel" 150 y_M_agree : Cond) ∈ bg := bg_in (List.mem_of_getElem? (i := 476) (by decide +kernel)) rfl
theorem wd_478 : (.instanceMethod y_M_agree : Cond) ∈ bg := bg_in (List.mem_of_getElem? (i := 478) (by decide +kernel)) rfl
theorem wc_M_agree : (.code y_M_agree b_M_agree 7 (some .boolean) : Cond) ∈ bg := bg_in (List.mem_of_getElem? (i := 479) (by decide +kernel)) rfl
def ws_M_agree : List Cond := .code y_M_agree b_M_agree 7 (some .boolean) :: bg
theorem g_M_agree : GoodIn bg ws_M_agree := fun w h => (List.mem_cons.mp h).elim (fun e => e ▸ bg_good _ wc_M_agree) (bg_good w)
theorem wd_480 : (.methodLink "HashTreeModel" 154 y_M_fork : Cond) ∈ bg := bg_in (List.mem_of_getElem? (i := 480) (by decide +kernel)) rfl
theorem wd_482 : (.instanceMethod y_M_fork : Cond) ∈ bg := bg_in (List.mem_of_getElem? (i := 482) (by decide +kernel)) rfl
theorem wc_M_fork : (.code y_M_fork b_M_fork 5 none : Cond) ∈ bg := bg_in (List.mem_of_getElem? (i := 483) (by decide +kernel)) rfl
def ws_M_fork : List Cond := .code y_M_fork b_M_fork 5 none :: bg
theorem g_M_fork : GoodIn bg ws_M_fork := fun w h => (List.mem_cons.mp h).elim (fun e => e ▸ bg_good _ wc_M_fork) (bg_good w)
theorem wd_484 : (.methodLink "HashTreeModel" 158 y_M_bit : Cond) ∈ bg := bg_in (List.mem_of_getElem? (i := 484) (by decide +kernel)) rfl
theorem wd_485 : (.static y_M_bit : Cond) ∈ bg := bg_in (List.mem_of_getElem? (i := 485) (by decide +kernel)) rfl
theorem wc_M_bit : (.code y_M_bit b_M_bit 3 (some .int) : Cond) ∈ bg := bg_in (List.mem_of_getElem? (i := 486) (by decide +kernel)) rfl
def ws_M_bit : List Cond := .code y_M_bit b_M_bit 3 (some .int) :: bg
theorem g_M_bit : GoodIn bg ws_M_bit := fun w h => (List.mem_cons.mp h).elim (fun e => e ▸ bg_good _ wc_M_bit) (bg_good w)
theorem wd_487 : (.methodLink "HashTreeLaw" 51 y_M_prove : Cond) ∈ bg := bg_in (List.mem_of_getElem? (i := 487) (by decide +kernel)) rfl
theorem wd_488 : (.instanceMethod y_M_prove : Cond) ∈ bg := bg_in (List.mem_of_getElem? (i := 488) (by decide +kernel)) rfl
theorem wd_489 : (.selects "HashTreeModel" y_M_prove y_M_prove : Cond) ∈ bg := bg_in (List.mem_of_getElem? (i := 489) (by decide +kernel)) rfl
theorem wc_M_prove : (.code y_M_prove b_M_prove 8 (some .int) : Cond) ∈ bg := bg_in (List.mem_of_getElem? (i := 490) (by decide +kernel)) rfl
def ws_M_prove : List Cond := .code y_M_prove b_M_prove 8 (some .int) :: bg
theorem g_M_prove : GoodIn bg ws_M_prove := fun w h => (List.mem_cons.mp h).elim (fun e => e ▸ bg_good _ wc_M_prove) (bg_good w)
theorem wd_491 : (.methodLink "HashTreeLaw" 56 y_M_sibling : Cond) ∈ bg := bg_in (List.mem_of_getElem? (i := 491) (by decide +kernel)) rfl
theorem wd_492 : (.instanceMethod y_M_sibling : Cond) ∈ bg := bg_in (List.mem_of_getElem? (i := 492) (by decide +kernel)) rfl
theorem wd_493 : (.selects "HashTreeModel" y_M_sibling y_M_sibling : Cond) ∈ bg := bg_in (List.mem_of_getElem? (i := 493) (by decide +kernel)) rfl
theorem wc_M_sibling : (.code y_M_sibling b_M_sibling 3 (some .long) : Cond) ∈ bg := bg_in (List.mem_of_getElem? (i := 494) (by decide +kernel)) rfl
def ws_M_sibling : List Cond := .code y_M_sibling b_M_sibling 3 (some .long) :: bg
theorem g_M_sibling : GoodIn bg ws_M_sibling := fun w h => (List.mem_cons.mp h).elim (fun e => e ▸ bg_good _ wc_M_sibling) (bg_good w)
theorem wd_495 : (.methodLink "HashTreeLaw" 60 y_M_ending : Cond) ∈ bg := bg_in (List.mem_of_getElem? (i := 495) (by decide +kernel)) rfl
theorem wd_496 : (.instanceMethod y_M_ending : Cond) ∈ bg := bg_in (List.mem_of_getElem? (i := 496) (by decide +kernel)) rfl
theorem wd_497 : (.selects "HashTreeModel" y_M_ending y_M_ending : Cond) ∈ bg := bg_in (List.mem_of_getElem? (i := 497) (by decide +kernel)) rfl
theorem wc_M_ending : (.code y_M_ending b_M_ending 1 (some .int) : Cond) ∈ bg := bg_in (List.mem_of_getElem? (i := 498) (by decide +kernel)) rfl
def ws_M_ending : List Cond := .code y_M_ending b_M_ending 1 (some .int) :: bg
theorem g_M_ending : GoodIn bg ws_M_ending := fun w h => (List.mem_cons.mp h).elim (fun e => e ▸ bg_good _ wc_M_ending) (bg_good w)
theorem wd_499 : (.methodLink "HashTreeLaw" 64 y_M_endNumber : Cond) ∈ bg := bg_in (List.mem_of_getElem? (i := 499) (by decide +kernel)) rfl
theorem wd_500 : (.instanceMethod y_M_endNumber : Cond) ∈ bg := bg_in (List.mem_of_getElem? (i := 500) (by decide +kernel)) rfl
theorem wd_501 : (.selects "HashTreeModel" y_M_endNumber y_M_endNumber : Cond) ∈ bg := bg_in (List.mem_of_getElem? (i := 501) (by decide +kernel)) rfl
theorem wc_M_endNumber : (.code y_M_endNumber b_M_endNumber 3 (some .long) : Cond) ∈ bg := bg_in (List.mem_of_getElem? (i := 502) (by decide +kernel)) rfl
def ws_M_endNumber : List Cond := .code y_M_endNumber b_M_endNumber 3 (some .long) :: bg
theorem g_M_endNumber : GoodIn bg ws_M_endNumber := fun w h => (List.mem_cons.mp h).elim (fun e => e ▸ bg_good _ wc_M_endNumber) (bg_good w)
theorem wd_503 : (.methodLink "HashTreeLaw" 69 y_M_digest : Cond) ∈ bg := bg_in (List.mem_of_getElem? (i := 503) (by decide +kernel)) rfl
theorem wd_504 : (.instanceMethod y_M_digest : Cond) ∈ bg := bg_in (List.mem_of_getElem? (i := 504) (by decide +kernel)) rfl
theorem wd_505 : (.selects "HashTreeModel" y_M_digest y_M_digest : Cond) ∈ bg := bg_in (List.mem_of_getElem? (i := 505) (by decide +kernel)) rfl
theorem wc_M_digest : (.code y_M_digest b_M_digest 9 (some .long) : Cond) ∈ bg := bg_in (List.mem_of_getElem? (i := 506) (by decide +kernel)) rfl
def ws_M_digest : List Cond := .code y_M_digest b_M_digest 9 (some .long) :: bg
theorem g_M_digest : GoodIn bg ws_M_digest := fun w h => (List.mem_cons.mp h).elim (fun e => e ▸ bg_good _ wc_M_digest) (bg_good w)
theorem wd_507 : (.constantLong "HashTreeLaw" 13 4294967295 : Cond) ∈ bg := bg_in (List.mem_of_getElem? (i := 507) (by decide +kernel)) rfl
theorem sl_0 : (.selects "HashTree" y_X_leafOfKey y_X_leafOfKey : Cond) ∈ bg := bg_sel (List.mem_of_getElem? (i := 0) (by decide +kernel)) rfl
theorem sl_1 : (.selects "HashTree" y_X_nearestLeaf y_X_nearestLeaf : Cond) ∈ bg := bg_sel (List.mem_of_getElem? (i := 1) (by decide +kernel)) rfl
theorem sl_2 : (.selects "HashTree" y_X_stalePath y_X_stalePath : Cond) ∈ bg := bg_sel (List.mem_of_getElem? (i := 2) (by decide +kernel)) rfl
theorem sl_3 : (.selects "HashTree" y_X_insert y_X_insert : Cond) ∈ bg := bg_sel (List.mem_of_getElem? (i := 3) (by decide +kernel)) rfl
theorem sl_4 : (.selects "HashTree" y_X_hang y_X_hang : Cond) ∈ bg := bg_sel (List.mem_of_getElem? (i := 4) (by decide +kernel)) rfl
theorem sl_5 : (.selects "HashTree" y_X_refresh y_X_refresh : Cond) ∈ bg := bg_sel (List.mem_of_getElem? (i := 5) (by decide +kernel)) rfl
theorem sl_6 : (.selects "HashTree" y_X_hashAt y_X_hashAt : Cond) ∈ bg := bg_sel (List.mem_of_getElem? (i := 6) (by decide +kernel)) rfl
theorem sl_7 : (.selects "HashTree$Digester" y_D_spread y_D_spread : Cond) ∈ bg := bg_sel (List.mem_of_getElem? (i := 7) (by decide +kernel)) rfl
theorem sl_8 : (.selects "HashTree$Digester" y_D_mix y_D_mix : Cond) ∈ bg := bg_sel (List.mem_of_getElem? (i := 8) (by decide +kernel)) rfl
theorem sl_9 : (.selects "HashTree" y_X_keepSibling y_X_keepSibling : Cond) ∈ bg := bg_sel (List.mem_of_getElem? (i := 9) (by decide +kernel)) rfl
theorem sl_10 : (.selects "HashTree" y_X_keepEnd y_X_keepEnd : Cond) ∈ bg := bg_sel (List.mem_of_getElem? (i := 10) (by decide +kernel)) rfl
theorem sl_11 : (.selects "HashTreeModel" y_M_place y_M_place : Cond) ∈ bg := bg_sel (List.mem_of_getElem? (i := 11) (by decide +kernel)) rfl
theorem sl_12 : (.selects "HashTreeModel" y_M_isAt y_M_isAt : Cond) ∈ bg := bg_sel (List.mem_of_getElem? (i := 12) (by decide +kernel)) rfl
theorem sl_13 : (.selects "HashTreeModel" y_M_hash y_M_hash : Cond) ∈ bg := bg_sel (List.mem_of_getElem? (i := 13) (by decide +kernel)) rfl
theorem sl_14 : (.selects "HashTreeModel" y_M_leaf y_M_leaf : Cond) ∈ bg := bg_sel (List.mem_of_getElem? (i := 14) (by decide +kernel)) rfl
theorem sl_15 : (.selects "HashTreeModel" y_M_join y_M_join : Cond) ∈ bg := bg_sel (List.mem_of_getElem? (i := 15) (by decide +kernel)) rfl
theorem sl_16 : (.selects "HashTreeModel" y_M_put y_M_put : Cond) ∈ bg := bg_sel (List.mem_of_getElem? (i := 16) (by decide +kernel)) rfl
theorem sl_17 : (.selects "HashTreeModel" y_M_digestOf y_M_digestOf : Cond) ∈ bg := bg_sel (List.mem_of_getElem? (i := 17) (by decide +kernel)) rfl
theorem sl_18 : (.selects "HashTreeModel" y_M_block y_M_block : Cond) ∈ bg := bg_sel (List.mem_of_getElem? (i := 18) (by decide +kernel)) rfl
theorem sl_19 : (.selects "HashTreeModel" y_M_wordPair y_M_wordPair : Cond) ∈ bg := bg_sel (List.mem_of_getElem? (i := 19) (by decide +kernel)) rfl
theorem sl_20 : (.selects "HashTreeModel" y_M_step y_M_step : Cond) ∈ bg := bg_sel (List.mem_of_getElem? (i := 20) (by decide +kernel)) rfl
theorem sl_21 : (.selects "HashTreeModel" y_M_agree y_M_agree : Cond) ∈ bg := bg_sel (List.mem_of_getElem? (i := 21) (by decide +kernel)) rfl
theorem sl_22 : (.selects "HashTreeModel" y_M_fork y_M_fork : Cond) ∈ bg := bg_sel (List.mem_of_getElem? (i := 22) (by decide +kernel)) rfl
theorem i_X : ∀ w ∈ u_ws R_X F_X 9, w ∈ bg := by decide +kernel
theorem i_D : ∀ w ∈ u_ws R_D F_D 3, w ∈ bg := by decide +kernel
theorem i_L : ∀ w ∈ u_ws R_L F_L 5, w ∈ bg := by decide +kernel
theorem i_B : ∀ w ∈ u_ws R_B F_B 6, w ∈ bg := by decide +kernel
theorem i_M : ∀ w ∈ u_ws R_M F_M 22, w ∈ bg := by decide +kernel
