/-! the words of the tables that the rows use, each by its place -/
def zt : List Cond := lw_tbl.filter goodWord
theorem zt_good : ∀ w ∈ zt, goodWord w = true := fun w h => (List.mem_filter.mp h).2
theorem zt_in : ∀ w ∈ zt, w ∈ lw_tbl := fun w h => (List.mem_filter.mp h).1
theorem zin_1 {w : Cond} (h : w ∈ tables_1_1) (g : goodWord w = true) : w ∈ zt := List.mem_filter.mpr ⟨List.mem_append_right _ (show w ∈ tables_1 from (List.mem_append_left _ h)), g⟩
theorem zin0_1 {w : Cond} (h : w ∈ tables_1_1) : w ∈ lw_tbl := List.mem_append_right _ (show w ∈ tables_1 from (List.mem_append_left _ h))
theorem zin_2 {w : Cond} (h : w ∈ tables_1_2) (g : goodWord w = true) : w ∈ zt := List.mem_filter.mpr ⟨List.mem_append_right _ (show w ∈ tables_1 from (List.mem_append_right _ (List.mem_append_left _ h))), g⟩
theorem zin0_2 {w : Cond} (h : w ∈ tables_1_2) : w ∈ lw_tbl := List.mem_append_right _ (show w ∈ tables_1 from (List.mem_append_right _ (List.mem_append_left _ h)))
theorem zin_3 {w : Cond} (h : w ∈ tables_1_3) (g : goodWord w = true) : w ∈ zt := List.mem_filter.mpr ⟨List.mem_append_right _ (show w ∈ tables_1 from (List.mem_append_right _ (List.mem_append_right _ (List.mem_append_left _ h)))), g⟩
theorem zin0_3 {w : Cond} (h : w ∈ tables_1_3) : w ∈ lw_tbl := List.mem_append_right _ (show w ∈ tables_1 from (List.mem_append_right _ (List.mem_append_right _ (List.mem_append_left _ h))))
theorem zin_4 {w : Cond} (h : w ∈ tables_1_4) (g : goodWord w = true) : w ∈ zt := List.mem_filter.mpr ⟨List.mem_append_right _ (show w ∈ tables_1 from (List.mem_append_right _ (List.mem_append_right _ (List.mem_append_right _ (List.mem_append_left _ h))))), g⟩
theorem zin0_4 {w : Cond} (h : w ∈ tables_1_4) : w ∈ lw_tbl := List.mem_append_right _ (show w ∈ tables_1 from (List.mem_append_right _ (List.mem_append_right _ (List.mem_append_right _ (List.mem_append_left _ h)))))
theorem zin_5 {w : Cond} (h : w ∈ tables_1_5) (g : goodWord w = true) : w ∈ zt := List.mem_filter.mpr ⟨List.mem_append_right _ (show w ∈ tables_1 from (List.mem_append_right _ (List.mem_append_right _ (List.mem_append_right _ (List.mem_append_right _ (List.mem_append_left _ h)))))), g⟩
theorem zin0_5 {w : Cond} (h : w ∈ tables_1_5) : w ∈ lw_tbl := List.mem_append_right _ (show w ∈ tables_1 from (List.mem_append_right _ (List.mem_append_right _ (List.mem_append_right _ (List.mem_append_right _ (List.mem_append_left _ h))))))
theorem zin_6 {w : Cond} (h : w ∈ tables_1_6) (g : goodWord w = true) : w ∈ zt := List.mem_filter.mpr ⟨List.mem_append_right _ (show w ∈ tables_1 from (List.mem_append_right _ (List.mem_append_right _ (List.mem_append_right _ (List.mem_append_right _ (List.mem_append_right _ (List.mem_append_left _ h))))))), g⟩
theorem zin0_6 {w : Cond} (h : w ∈ tables_1_6) : w ∈ lw_tbl := List.mem_append_right _ (show w ∈ tables_1 from (List.mem_append_right _ (List.mem_append_right _ (List.mem_append_right _ (List.mem_append_right _ (List.mem_append_right _ (List.mem_append_left _ h)))))))
theorem zin_7 {w : Cond} (h : w ∈ tables_1_7) (g : goodWord w = true) : w ∈ zt := List.mem_filter.mpr ⟨List.mem_append_right _ (show w ∈ tables_1 from (List.mem_append_right _ (List.mem_append_right _ (List.mem_append_right _ (List.mem_append_right _ (List.mem_append_right _ (List.mem_append_right _ h))))))), g⟩
theorem zin0_7 {w : Cond} (h : w ∈ tables_1_7) : w ∈ lw_tbl := List.mem_append_right _ (show w ∈ tables_1 from (List.mem_append_right _ (List.mem_append_right _ (List.mem_append_right _ (List.mem_append_right _ (List.mem_append_right _ (List.mem_append_right _ h)))))))
theorem zin_p {w : Cond} {i : Nat} {q : MethodName × Nat} (h : lw_privs[i]? = some q) (e : Cond.selects q.1.cls q.1 q.1 = w) : w ∈ zt := List.mem_filter.mpr ⟨List.mem_append_left _ (List.mem_map.mpr ⟨q, List.mem_of_getElem? h, e⟩), by rw [← e]; rfl⟩
theorem k0 : Cond.initialized "TapeRingsLaw" ∈ zt := zin_1 (List.mem_of_getElem? (i := 0) rfl) rfl
theorem k1 : Cond.initialized "TapeRings" ∈ zt := zin_1 (List.mem_of_getElem? (i := 1) rfl) rfl
theorem k2 : Cond.initialized "TapeRings$Splicer" ∈ zt := zin_1 (List.mem_of_getElem? (i := 2) rfl) rfl
theorem k3 : Cond.initialized "TapeRings$Strip" ∈ zt := zin_1 (List.mem_of_getElem? (i := 3) rfl) rfl
theorem k4 : Cond.initialized "TapeRings$Studio" ∈ zt := zin_1 (List.mem_of_getElem? (i := 4) rfl) rfl
theorem k5 : Cond.initialized "TapeRings$Motor" ∈ zt := zin_1 (List.mem_of_getElem? (i := 5) rfl) rfl
theorem k6 : Cond.initialized "TapeRings$Ring" ∈ zt := zin_1 (List.mem_of_getElem? (i := 6) rfl) rfl
theorem k7 : Cond.initialized "TapeRings$Meeting" ∈ zt := zin_1 (List.mem_of_getElem? (i := 7) rfl) rfl
theorem k8 : Cond.initialized "TapeRings$Planner" ∈ zt := zin_1 (List.mem_of_getElem? (i := 8) rfl) rfl
theorem k9 : Cond.initialized "TapeRings$Echo" ∈ zt := zin_1 (List.mem_of_getElem? (i := 9) rfl) rfl
theorem k10 : Cond.initialized "java/util/Arrays" ∈ zt := zin_1 (List.mem_of_getElem? (i := 10) rfl) rfl
theorem k11 : Cond.initialized "TapeRings$OldTape" ∈ zt := zin_1 (List.mem_of_getElem? (i := 11) rfl) rfl
theorem k12 : Cond.initialized "TapeRings$Pieces" ∈ zt := zin_1 (List.mem_of_getElem? (i := 12) rfl) rfl
theorem k13 : Cond.initialized "TapeRings$Versions" ∈ zt := zin_1 (List.mem_of_getElem? (i := 13) rfl) rfl
theorem k14 : Cond.initialized "TapeRingsModel" ∈ zt := zin_1 (List.mem_of_getElem? (i := 14) rfl) rfl
theorem k15 : Cond.initialized "java/lang/Math" ∈ zt := zin_1 (List.mem_of_getElem? (i := 15) rfl) rfl
theorem k16 : Cond.initialized "java/lang/System" ∈ zt := zin_1 (List.mem_of_getElem? (i := 16) rfl) rfl
theorem k17 : Cond.initialized "java/lang/Integer" ∈ zt := zin_1 (List.mem_of_getElem? (i := 17) rfl) rfl
theorem k18 : Cond.initialized "java/lang/Throwable" ∈ zt := zin_1 (List.mem_of_getElem? (i := 18) rfl) rfl
theorem k19 : Cond.initialized "java/lang/Exception" ∈ zt := zin_1 (List.mem_of_getElem? (i := 19) rfl) rfl
theorem k20 : Cond.initialized "java/lang/RuntimeException" ∈ zt := zin_1 (List.mem_of_getElem? (i := 20) rfl) rfl
theorem k21 : Cond.initialized "java/util/NoSuchElementException" ∈ zt := zin_1 (List.mem_of_getElem? (i := 21) rfl) rfl
theorem k22 : Cond.classLink "TapeRingsLaw" (8 : Nat) "TapeRings" ∈ zt := zin_1 (List.mem_of_getElem? (i := 22) rfl) rfl
theorem k23 : Cond.instantiable "TapeRings" (11 : Nat) ∈ zt := zin_1 (List.mem_of_getElem? (i := 23) rfl) rfl
theorem k24 : Cond.methodLink "TapeRingsLaw" (23 : Nat) yX11_init ∈ zt := zin_1 (List.mem_of_getElem? (i := 24) rfl) rfl
theorem k25 : Cond.instanceMethod yX11_init ∈ zt := zin_1 (List.mem_of_getElem? (i := 25) rfl) rfl
theorem k26 : Cond.code yX11_init prog_1_method_1_code (1 : Nat) (Option.none : Option FieldType) ∈ zt := zin_1 (List.mem_of_getElem? (i := 26) rfl) rfl
theorem k27 : Cond.methodLink "TapeRings" (3 : Nat) (⟨"java/lang/Object", "<init>", "()V"⟩ : MethodName) ∈ zt := zin_1 (List.mem_of_getElem? (i := 27) rfl) rfl
theorem k28 : Cond.instanceMethod (⟨"java/lang/Object", "<init>", "()V"⟩ : MethodName) ∈ zt := zin_1 (List.mem_of_getElem? (i := 28) rfl) rfl
theorem k29 : Cond.code (⟨"java/lang/Object", "<init>", "()V"⟩ : MethodName) object_method_1_code (1 : Nat) (Option.none : Option FieldType) ∈ zt := zin_1 (List.mem_of_getElem? (i := 29) rfl) rfl
theorem k30 : Cond.classLink "TapeRings" (9 : Nat) "TapeRings$Splicer" ∈ zt := zin_1 (List.mem_of_getElem? (i := 30) rfl) rfl
theorem k31 : Cond.instantiable "TapeRings$Splicer" (7 : Nat) ∈ zt := zin_1 (List.mem_of_getElem? (i := 31) rfl) rfl
theorem k32 : Cond.methodLink "TapeRings" (11 : Nat) yX7_init ∈ zt := zin_1 (List.mem_of_getElem? (i := 32) rfl) rfl
theorem k33 : Cond.instanceMethod yX7_init ∈ zt := zin_1 (List.mem_of_getElem? (i := 33) rfl) rfl
theorem k34 : Cond.code yX7_init prog_9_method_1_code (2 : Nat) (Option.none : Option FieldType) ∈ zt := zin_1 (List.mem_of_getElem? (i := 34) rfl) rfl
theorem k35 : Cond.methodLink "TapeRings$Splicer" (3 : Nat) (⟨"java/lang/Object", "<init>", "()V"⟩ : MethodName) ∈ zt := zin_1 (List.mem_of_getElem? (i := 35) rfl) rfl
theorem k36 : Cond.classLink "TapeRings$Splicer" (25 : Nat) "TapeRings$Strip" ∈ zt := zin_1 (List.mem_of_getElem? (i := 36) rfl) rfl
theorem k37 : Cond.instantiable "TapeRings$Strip" (2 : Nat) ∈ zt := zin_1 (List.mem_of_getElem? (i := 38) rfl) rfl
theorem k38 : Cond.instanceMethod yX8_init ∈ zt := zin_1 (List.mem_of_getElem? (i := 40) rfl) rfl
theorem k39 : Cond.code yX8_init prog_10_method_1_code (1 : Nat) (Option.none : Option FieldType) ∈ zt := zin_1 (List.mem_of_getElem? (i := 41) rfl) rfl
theorem k40 : Cond.methodLink "TapeRings$Strip" (3 : Nat) (⟨"java/lang/Object", "<init>", "()V"⟩ : MethodName) ∈ zt := zin_1 (List.mem_of_getElem? (i := 42) rfl) rfl
theorem k41 : Cond.fieldLink "TapeRings$Strip" (9 : Nat) "TapeRings$Strip" "inches" "[I" ∈ zt := zin_1 (List.mem_of_getElem? (i := 43) rfl) rfl
theorem k42 : Cond.fieldLink "TapeRings$Ring" (53 : Nat) "TapeRings$Strip" "inches" "[I" ∈ zt := zin_1 (List.mem_of_getElem? (i := 44) rfl) rfl
theorem k43 : Cond.fieldLink "TapeRings$Versions" (52 : Nat) "TapeRings$Strip" "inches" "[I" ∈ zt := zin_1 (List.mem_of_getElem? (i := 45) rfl) rfl
theorem k44 : Cond.fieldLink "TapeRings$Strip" (15 : Nat) "TapeRings$Strip" "length" "I" ∈ zt := zin_1 (List.mem_of_getElem? (i := 46) rfl) rfl
theorem k45 : Cond.fieldLink "TapeRings$Ring" (42 : Nat) "TapeRings$Strip" "length" "I" ∈ zt := zin_1 (List.mem_of_getElem? (i := 47) rfl) rfl
theorem k46 : Cond.fieldLink "TapeRings$Splicer" (49 : Nat) "TapeRings$Strip" "length" "I" ∈ zt := zin_1 (List.mem_of_getElem? (i := 48) rfl) rfl
theorem k47 : Cond.fieldLink "TapeRings$Versions" (36 : Nat) "TapeRings$Strip" "length" "I" ∈ zt := zin_1 (List.mem_of_getElem? (i := 49) rfl) rfl
theorem k48 : Cond.fieldLink "TapeRings$Planner" (89 : Nat) "TapeRings$Strip" "length" "I" ∈ zt := zin_1 (List.mem_of_getElem? (i := 50) rfl) rfl
theorem k49 : Cond.fieldLink "TapeRings$Studio" (57 : Nat) "TapeRings$Strip" "length" "I" ∈ zt := zin_1 (List.mem_of_getElem? (i := 51) rfl) rfl
theorem k50 : Cond.fieldLink "TapeRings" (117 : Nat) "TapeRings$Strip" "length" "I" ∈ zt := zin_1 (List.mem_of_getElem? (i := 52) rfl) rfl
theorem k51 : Cond.laysFinal "TapeRings$Strip" "TapeRings$Strip" "inches" "[I" ∈ zt := zin_1 (List.mem_of_getElem? (i := 53) rfl) rfl
theorem k52 : Cond.lays "TapeRings$Strip" "TapeRings$Strip" "length" "I" ∈ zt := zin_1 (List.mem_of_getElem? (i := 55) rfl) rfl
theorem k53 : Cond.arrayClass FieldType.int ∈ zt := zin_1 (List.mem_of_getElem? (i := 58) rfl) rfl
theorem k54 : Cond.fieldLink "TapeRings$Splicer" (9 : Nat) "TapeRings$Splicer" "signs" "[I" ∈ zt := zin_1 (List.mem_of_getElem? (i := 59) rfl) rfl
theorem k55 : Cond.fieldLink "TapeRings$Splicer" (15 : Nat) "TapeRings$Splicer" "count" "I" ∈ zt := zin_1 (List.mem_of_getElem? (i := 60) rfl) rfl
theorem k56 : Cond.fieldLink "TapeRings" (155 : Nat) "TapeRings$Splicer" "count" "I" ∈ zt := zin_1 (List.mem_of_getElem? (i := 61) rfl) rfl
theorem k57 : Cond.fieldLink "TapeRings$Splicer" (19 : Nat) "TapeRings$Splicer" "level" "I" ∈ zt := zin_1 (List.mem_of_getElem? (i := 62) rfl) rfl
theorem k58 : Cond.fieldLink "TapeRings$Splicer" (22 : Nat) "TapeRings$Splicer" "ahead" "I" ∈ zt := zin_1 (List.mem_of_getElem? (i := 63) rfl) rfl
theorem k59 : Cond.fieldLink "TapeRings$Splicer" (27 : Nat) "TapeRings$Splicer" "rows" "[LTapeRings$Strip;" ∈ zt := zin_1 (List.mem_of_getElem? (i := 64) rfl) rfl
theorem k60 : Cond.fieldLink "TapeRings$Splicer" (31 : Nat) "TapeRings$Splicer" "terms" "[LTapeRings$Strip;" ∈ zt := zin_1 (List.mem_of_getElem? (i := 65) rfl) rfl
theorem k61 : Cond.fieldLink "TapeRings$Splicer" (34 : Nat) "TapeRings$Splicer" "shared" "[I" ∈ zt := zin_1 (List.mem_of_getElem? (i := 66) rfl) rfl
theorem k62 : Cond.laysFinal "TapeRings$Splicer" "TapeRings$Splicer" "signs" "[I" ∈ zt := zin_1 (List.mem_of_getElem? (i := 67) rfl) rfl
theorem k63 : Cond.lays "TapeRings$Splicer" "TapeRings$Splicer" "count" "I" ∈ zt := zin_1 (List.mem_of_getElem? (i := 69) rfl) rfl
theorem k64 : Cond.lays "TapeRings$Splicer" "TapeRings$Splicer" "level" "I" ∈ zt := zin_1 (List.mem_of_getElem? (i := 71) rfl) rfl
theorem k65 : Cond.lays "TapeRings$Splicer" "TapeRings$Splicer" "ahead" "I" ∈ zt := zin_1 (List.mem_of_getElem? (i := 73) rfl) rfl
theorem k66 : Cond.laysFinal "TapeRings$Splicer" "TapeRings$Splicer" "rows" "[LTapeRings$Strip;" ∈ zt := zin_1 (List.mem_of_getElem? (i := 75) rfl) rfl
theorem k67 : Cond.laysFinal "TapeRings$Splicer" "TapeRings$Splicer" "terms" "[LTapeRings$Strip;" ∈ zt := zin_1 (List.mem_of_getElem? (i := 77) rfl) rfl
theorem k68 : Cond.laysFinal "TapeRings$Splicer" "TapeRings$Splicer" "shared" "[I" ∈ zt := zin_1 (List.mem_of_getElem? (i := 79) rfl) rfl
theorem k69 : Cond.classLink "TapeRings" (16 : Nat) "TapeRings$Strip" ∈ zt := zin_1 (List.mem_of_getElem? (i := 82) rfl) rfl
theorem k70 : Cond.classLink "TapeRings" (23 : Nat) "TapeRings$Studio" ∈ zt := zin_1 (List.mem_of_getElem? (i := 84) rfl) rfl
theorem k71 : Cond.instantiable "TapeRings$Studio" (3 : Nat) ∈ zt := zin_1 (List.mem_of_getElem? (i := 85) rfl) rfl
theorem k72 : Cond.methodLink "TapeRings" (25 : Nat) yX9_init ∈ zt := zin_1 (List.mem_of_getElem? (i := 86) rfl) rfl
theorem k73 : Cond.instanceMethod yX9_init ∈ zt := zin_1 (List.mem_of_getElem? (i := 87) rfl) rfl
theorem k74 : Cond.code yX9_init prog_11_method_1_code (2 : Nat) (Option.none : Option FieldType) ∈ zt := zin_1 (List.mem_of_getElem? (i := 88) rfl) rfl
theorem k75 : Cond.methodLink "TapeRings$Studio" (3 : Nat) (⟨"java/lang/Object", "<init>", "()V"⟩ : MethodName) ∈ zt := zin_1 (List.mem_of_getElem? (i := 89) rfl) rfl
theorem k76 : Cond.classLink "TapeRings$Studio" (9 : Nat) "TapeRings$Motor" ∈ zt := zin_1 (List.mem_of_getElem? (i := 90) rfl) rfl
theorem k77 : Cond.classLink "TapeRings$Studio" (17 : Nat) "TapeRings$Ring" ∈ zt := zin_1 (List.mem_of_getElem? (i := 92) rfl) rfl
theorem k78 : Cond.instantiable "TapeRings$Motor" (3 : Nat) ∈ zt := zin_1 (List.mem_of_getElem? (i := 94) rfl) rfl
theorem k79 : Cond.instanceMethod yX2_init ∈ zt := zin_1 (List.mem_of_getElem? (i := 96) rfl) rfl
theorem k80 : Cond.code yX2_init prog_4_method_1_code (1 : Nat) (Option.none : Option FieldType) ∈ zt := zin_1 (List.mem_of_getElem? (i := 97) rfl) rfl
theorem k81 : Cond.methodLink "TapeRings$Motor" (3 : Nat) (⟨"java/lang/Object", "<init>", "()V"⟩ : MethodName) ∈ zt := zin_1 (List.mem_of_getElem? (i := 98) rfl) rfl
theorem k82 : Cond.fieldLink "TapeRings$Motor" (9 : Nat) "TapeRings$Motor" "ticks" "[I" ∈ zt := zin_1 (List.mem_of_getElem? (i := 99) rfl) rfl
theorem k83 : Cond.fieldLink "TapeRings$Motor" (15 : Nat) "TapeRings$Motor" "speeds" "[I" ∈ zt := zin_1 (List.mem_of_getElem? (i := 100) rfl) rfl
theorem k84 : Cond.fieldLink "TapeRings$Motor" (18 : Nat) "TapeRings$Motor" "count" "I" ∈ zt := zin_1 (List.mem_of_getElem? (i := 101) rfl) rfl
theorem k85 : Cond.laysFinal "TapeRings$Motor" "TapeRings$Motor" "ticks" "[I" ∈ zt := zin_1 (List.mem_of_getElem? (i := 102) rfl) rfl
theorem k86 : Cond.laysFinal "TapeRings$Motor" "TapeRings$Motor" "speeds" "[I" ∈ zt := zin_1 (List.mem_of_getElem? (i := 104) rfl) rfl
theorem k87 : Cond.lays "TapeRings$Motor" "TapeRings$Motor" "count" "I" ∈ zt := zin_1 (List.mem_of_getElem? (i := 106) rfl) rfl
theorem k88 : Cond.instantiable "TapeRings$Ring" (6 : Nat) ∈ zt := zin_1 (List.mem_of_getElem? (i := 109) rfl) rfl
theorem k89 : Cond.instanceMethod yX6_init ∈ zt := zin_1 (List.mem_of_getElem? (i := 111) rfl) rfl
theorem k90 : Cond.code yX6_init prog_8_method_1_code (1 : Nat) (Option.none : Option FieldType) ∈ zt := zin_1 (List.mem_of_getElem? (i := 112) rfl) rfl
theorem k91 : Cond.methodLink "TapeRings$Ring" (3 : Nat) (⟨"java/lang/Object", "<init>", "()V"⟩ : MethodName) ∈ zt := zin_1 (List.mem_of_getElem? (i := 113) rfl) rfl
theorem k92 : Cond.classLink "TapeRings$Ring" (9 : Nat) "TapeRings$Strip" ∈ zt := zin_1 (List.mem_of_getElem? (i := 114) rfl) rfl
theorem k93 : Cond.fieldLink "TapeRings$Ring" (12 : Nat) "TapeRings$Ring" "strip" "LTapeRings$Strip;" ∈ zt := zin_1 (List.mem_of_getElem? (i := 116) rfl) rfl
theorem k94 : Cond.fieldLink "TapeRings$Planner" (85 : Nat) "TapeRings$Ring" "strip" "LTapeRings$Strip;" ∈ zt := zin_1 (List.mem_of_getElem? (i := 117) rfl) rfl
theorem k95 : Cond.fieldLink "TapeRings$Studio" (53 : Nat) "TapeRings$Ring" "strip" "LTapeRings$Strip;" ∈ zt := zin_1 (List.mem_of_getElem? (i := 118) rfl) rfl
theorem k96 : Cond.fieldLink "TapeRings" (108 : Nat) "TapeRings$Ring" "strip" "LTapeRings$Strip;" ∈ zt := zin_1 (List.mem_of_getElem? (i := 119) rfl) rfl
theorem k97 : Cond.fieldLink "TapeRings$Ring" (18 : Nat) "TapeRings$Ring" "motor" "I" ∈ zt := zin_1 (List.mem_of_getElem? (i := 120) rfl) rfl
theorem k98 : Cond.fieldLink "TapeRings$Planner" (60 : Nat) "TapeRings$Ring" "motor" "I" ∈ zt := zin_1 (List.mem_of_getElem? (i := 121) rfl) rfl
theorem k99 : Cond.fieldLink "TapeRings$Studio" (46 : Nat) "TapeRings$Ring" "motor" "I" ∈ zt := zin_1 (List.mem_of_getElem? (i := 122) rfl) rfl
theorem k100 : Cond.fieldLink "TapeRings" (124 : Nat) "TapeRings$Ring" "motor" "I" ∈ zt := zin_1 (List.mem_of_getElem? (i := 123) rfl) rfl
theorem k101 : Cond.fieldLink "TapeRings$Ring" (22 : Nat) "TapeRings$Ring" "start" "I" ∈ zt := zin_1 (List.mem_of_getElem? (i := 124) rfl) rfl
theorem k102 : Cond.fieldLink "TapeRings$Planner" (118 : Nat) "TapeRings$Ring" "start" "I" ∈ zt := zin_1 (List.mem_of_getElem? (i := 125) rfl) rfl
theorem k103 : Cond.fieldLink "TapeRings" (127 : Nat) "TapeRings$Ring" "start" "I" ∈ zt := zin_1 (List.mem_of_getElem? (i := 126) rfl) rfl
theorem k104 : Cond.fieldLink "TapeRings$Ring" (25 : Nat) "TapeRings$Ring" "heads" "I" ∈ zt := zin_1 (List.mem_of_getElem? (i := 127) rfl) rfl
theorem k105 : Cond.fieldLink "TapeRings" (159 : Nat) "TapeRings$Ring" "heads" "I" ∈ zt := zin_1 (List.mem_of_getElem? (i := 128) rfl) rfl
theorem k106 : Cond.fieldLink "TapeRings$Ring" (28 : Nat) "TapeRings$Ring" "wish" "I" ∈ zt := zin_1 (List.mem_of_getElem? (i := 129) rfl) rfl
theorem k107 : Cond.fieldLink "TapeRings$Studio" (77 : Nat) "TapeRings$Ring" "wish" "I" ∈ zt := zin_1 (List.mem_of_getElem? (i := 130) rfl) rfl
theorem k108 : Cond.fieldLink "TapeRings" (166 : Nat) "TapeRings$Ring" "wish" "I" ∈ zt := zin_1 (List.mem_of_getElem? (i := 131) rfl) rfl
theorem k109 : Cond.fieldLink "TapeRings$Ring" (31 : Nat) "TapeRings$Ring" "under" "[I" ∈ zt := zin_1 (List.mem_of_getElem? (i := 132) rfl) rfl
theorem k110 : Cond.laysFinal "TapeRings$Ring" "TapeRings$Ring" "strip" "LTapeRings$Strip;" ∈ zt := zin_1 (List.mem_of_getElem? (i := 133) rfl) rfl
theorem k111 : Cond.lays "TapeRings$Ring" "TapeRings$Ring" "motor" "I" ∈ zt := zin_1 (List.mem_of_getElem? (i := 135) rfl) rfl
theorem k112 : Cond.lays "TapeRings$Ring" "TapeRings$Ring" "start" "I" ∈ zt := zin_1 (List.mem_of_getElem? (i := 137) rfl) rfl
theorem k113 : Cond.lays "TapeRings$Ring" "TapeRings$Ring" "heads" "I" ∈ zt := zin_1 (List.mem_of_getElem? (i := 139) rfl) rfl
theorem k114 : Cond.lays "TapeRings$Ring" "TapeRings$Ring" "wish" "I" ∈ zt := zin_1 (List.mem_of_getElem? (i := 141) rfl) rfl
theorem k115 : Cond.laysFinal "TapeRings$Ring" "TapeRings$Ring" "under" "[I" ∈ zt := zin_1 (List.mem_of_getElem? (i := 143) rfl) rfl
theorem k116 : Cond.fieldLink "TapeRings$Studio" (11 : Nat) "TapeRings$Studio" "motors" "[LTapeRings$Motor;" ∈ zt := zin_1 (List.mem_of_getElem? (i := 146) rfl) rfl
theorem k117 : Cond.fieldLink "TapeRings$Studio" (19 : Nat) "TapeRings$Studio" "rings" "[LTapeRings$Ring;" ∈ zt := zin_1 (List.mem_of_getElem? (i := 147) rfl) rfl
theorem k118 : Cond.fieldLink "TapeRings$Studio" (23 : Nat) "TapeRings$Studio" "count" "I" ∈ zt := zin_1 (List.mem_of_getElem? (i := 148) rfl) rfl
theorem k119 : Cond.fieldLink "TapeRings$Planner" (48 : Nat) "TapeRings$Studio" "count" "I" ∈ zt := zin_1 (List.mem_of_getElem? (i := 149) rfl) rfl
theorem k120 : Cond.fieldLink "TapeRings" (151 : Nat) "TapeRings$Studio" "count" "I" ∈ zt := zin_1 (List.mem_of_getElem? (i := 150) rfl) rfl
theorem k121 : Cond.laysFinal "TapeRings$Studio" "TapeRings$Studio" "motors" "[LTapeRings$Motor;" ∈ zt := zin_1 (List.mem_of_getElem? (i := 151) rfl) rfl
theorem k122 : Cond.laysFinal "TapeRings$Studio" "TapeRings$Studio" "rings" "[LTapeRings$Ring;" ∈ zt := zin_1 (List.mem_of_getElem? (i := 153) rfl) rfl
theorem k123 : Cond.lays "TapeRings$Studio" "TapeRings$Studio" "count" "I" ∈ zt := zin_1 (List.mem_of_getElem? (i := 155) rfl) rfl
theorem k124 : Cond.classLink "TapeRings" (30 : Nat) "TapeRings$Meeting" ∈ zt := zin_1 (List.mem_of_getElem? (i := 158) rfl) rfl
theorem k125 : Cond.instantiable "TapeRings$Meeting" (4 : Nat) ∈ zt := zin_1 (List.mem_of_getElem? (i := 159) rfl) rfl
theorem k126 : Cond.instanceMethod yX1_init ∈ zt := zin_1 (List.mem_of_getElem? (i := 161) rfl) rfl
theorem k127 : Cond.code yX1_init prog_3_method_1_code (1 : Nat) (Option.none : Option FieldType) ∈ zt := zin_1 (List.mem_of_getElem? (i := 162) rfl) rfl
theorem k128 : Cond.methodLink "TapeRings$Meeting" (3 : Nat) (⟨"java/lang/Object", "<init>", "()V"⟩ : MethodName) ∈ zt := zin_1 (List.mem_of_getElem? (i := 163) rfl) rfl
theorem k129 : Cond.fieldLink "TapeRings$Meeting" (9 : Nat) "TapeRings$Meeting" "count" "I" ∈ zt := zin_1 (List.mem_of_getElem? (i := 164) rfl) rfl
theorem k130 : Cond.fieldLink "TapeRings$Meeting" (15 : Nat) "TapeRings$Meeting" "steady" "J" ∈ zt := zin_1 (List.mem_of_getElem? (i := 165) rfl) rfl
theorem k131 : Cond.fieldLink "TapeRings$Meeting" (19 : Nat) "TapeRings$Meeting" "rounds" "[I" ∈ zt := zin_1 (List.mem_of_getElem? (i := 166) rfl) rfl
theorem k132 : Cond.fieldLink "TapeRings$Meeting" (23 : Nat) "TapeRings$Meeting" "turns" "[I" ∈ zt := zin_1 (List.mem_of_getElem? (i := 167) rfl) rfl
theorem k133 : Cond.lays "TapeRings$Meeting" "TapeRings$Meeting" "count" "I" ∈ zt := zin_1 (List.mem_of_getElem? (i := 168) rfl) rfl
theorem k134 : Cond.lays "TapeRings$Meeting" "TapeRings$Meeting" "steady" "J" ∈ zt := zin_1 (List.mem_of_getElem? (i := 170) rfl) rfl
theorem k135 : Cond.laysFinal "TapeRings$Meeting" "TapeRings$Meeting" "rounds" "[I" ∈ zt := zin_1 (List.mem_of_getElem? (i := 172) rfl) rfl
theorem k136 : Cond.laysFinal "TapeRings$Meeting" "TapeRings$Meeting" "turns" "[I" ∈ zt := zin_1 (List.mem_of_getElem? (i := 174) rfl) rfl
theorem k137 : Cond.classLink "TapeRings" (37 : Nat) "TapeRings$Planner" ∈ zt := zin_1 (List.mem_of_getElem? (i := 177) rfl) rfl
theorem k138 : Cond.instantiable "TapeRings$Planner" (9 : Nat) ∈ zt := zin_1 (List.mem_of_getElem? (i := 178) rfl) rfl
theorem k139 : Cond.instanceMethod yX5_init ∈ zt := zin_1 (List.mem_of_getElem? (i := 180) rfl) rfl
theorem k140 : Cond.code yX5_init prog_7_method_1_code (1 : Nat) (Option.none : Option FieldType) ∈ zt := zin_1 (List.mem_of_getElem? (i := 181) rfl) rfl
theorem k141 : Cond.methodLink "TapeRings$Planner" (3 : Nat) (⟨"java/lang/Object", "<init>", "()V"⟩ : MethodName) ∈ zt := zin_1 (List.mem_of_getElem? (i := 182) rfl) rfl
theorem k142 : Cond.classLink "TapeRings$Planner" (25 : Nat) "[[I" ∈ zt := zin_1 (List.mem_of_getElem? (i := 183) rfl) rfl
theorem k143 : Cond.fieldLink "TapeRings$Planner" (9 : Nat) "TapeRings$Planner" "ticks" "[I" ∈ zt := zin_1 (List.mem_of_getElem? (i := 185) rfl) rfl
theorem k144 : Cond.fieldLink "TapeRings$Planner" (15 : Nat) "TapeRings$Planner" "sounds" "[I" ∈ zt := zin_1 (List.mem_of_getElem? (i := 186) rfl) rfl
theorem k145 : Cond.fieldLink "TapeRings$Planner" (18 : Nat) "TapeRings$Planner" "count" "I" ∈ zt := zin_1 (List.mem_of_getElem? (i := 187) rfl) rfl
theorem k146 : Cond.fieldLink "TapeRings" (144 : Nat) "TapeRings$Planner" "count" "I" ∈ zt := zin_1 (List.mem_of_getElem? (i := 188) rfl) rfl
theorem k147 : Cond.fieldLink "TapeRings$Planner" (22 : Nat) "TapeRings$Planner" "plan" "[I" ∈ zt := zin_1 (List.mem_of_getElem? (i := 189) rfl) rfl
theorem k148 : Cond.fieldLink "TapeRings" (217 : Nat) "TapeRings$Planner" "plan" "[I" ∈ zt := zin_1 (List.mem_of_getElem? (i := 190) rfl) rfl
theorem k149 : Cond.fieldLink "TapeRings$Planner" (27 : Nat) "TapeRings$Planner" "trueBy" "[[I" ∈ zt := zin_1 (List.mem_of_getElem? (i := 191) rfl) rfl
theorem k150 : Cond.fieldLink "TapeRings$Planner" (30 : Nat) "TapeRings$Planner" "costs" "[[I" ∈ zt := zin_1 (List.mem_of_getElem? (i := 192) rfl) rfl
theorem k151 : Cond.fieldLink "TapeRings$Planner" (33 : Nat) "TapeRings$Planner" "cheapest" "[I" ∈ zt := zin_1 (List.mem_of_getElem? (i := 193) rfl) rfl
theorem k152 : Cond.fieldLink "TapeRings$Planner" (36 : Nat) "TapeRings$Planner" "under" "[I" ∈ zt := zin_1 (List.mem_of_getElem? (i := 194) rfl) rfl
theorem k153 : Cond.fieldLink "TapeRings$Planner" (39 : Nat) "TapeRings$Planner" "ways" "[I" ∈ zt := zin_1 (List.mem_of_getElem? (i := 195) rfl) rfl
theorem k154 : Cond.laysFinal "TapeRings$Planner" "TapeRings$Planner" "ticks" "[I" ∈ zt := zin_1 (List.mem_of_getElem? (i := 196) rfl) rfl
theorem k155 : Cond.laysFinal "TapeRings$Planner" "TapeRings$Planner" "sounds" "[I" ∈ zt := zin_1 (List.mem_of_getElem? (i := 198) rfl) rfl
theorem k156 : Cond.lays "TapeRings$Planner" "TapeRings$Planner" "count" "I" ∈ zt := zin_1 (List.mem_of_getElem? (i := 200) rfl) rfl
theorem k157 : Cond.laysFinal "TapeRings$Planner" "TapeRings$Planner" "plan" "[I" ∈ zt := zin_1 (List.mem_of_getElem? (i := 202) rfl) rfl
theorem k158 : Cond.laysFinal "TapeRings$Planner" "TapeRings$Planner" "trueBy" "[[I" ∈ zt := zin_1 (List.mem_of_getElem? (i := 204) rfl) rfl
theorem k159 : Cond.laysFinal "TapeRings$Planner" "TapeRings$Planner" "costs" "[[I" ∈ zt := zin_1 (List.mem_of_getElem? (i := 206) rfl) rfl
theorem k160 : Cond.laysFinal "TapeRings$Planner" "TapeRings$Planner" "cheapest" "[I" ∈ zt := zin_1 (List.mem_of_getElem? (i := 208) rfl) rfl
theorem k161 : Cond.laysFinal "TapeRings$Planner" "TapeRings$Planner" "under" "[I" ∈ zt := zin_1 (List.mem_of_getElem? (i := 210) rfl) rfl
theorem k162 : Cond.laysFinal "TapeRings$Planner" "TapeRings$Planner" "ways" "[I" ∈ zt := zin_1 (List.mem_of_getElem? (i := 212) rfl) rfl
theorem k163 : Cond.classLink "TapeRings" (44 : Nat) "TapeRings$Echo" ∈ zt := zin_1 (List.mem_of_getElem? (i := 215) rfl) rfl
theorem k164 : Cond.instantiable "TapeRings$Echo" (8 : Nat) ∈ zt := zin_1 (List.mem_of_getElem? (i := 216) rfl) rfl
theorem k165 : Cond.methodLink "TapeRings" (46 : Nat) yX0_init ∈ zt := zin_1 (List.mem_of_getElem? (i := 217) rfl) rfl
theorem k166 : Cond.instanceMethod yX0_init ∈ zt := zin_1 (List.mem_of_getElem? (i := 218) rfl) rfl
theorem k167 : Cond.code yX0_init prog_2_method_1_code (1 : Nat) (Option.none : Option FieldType) ∈ zt := zin_1 (List.mem_of_getElem? (i := 219) rfl) rfl
theorem k168 : Cond.methodLink "TapeRings$Echo" (3 : Nat) (⟨"java/lang/Object", "<init>", "()V"⟩ : MethodName) ∈ zt := zin_1 (List.mem_of_getElem? (i := 220) rfl) rfl
theorem k169 : Cond.methodLink "TapeRings$Echo" (37 : Nat) yJ7_fill_53178 ∈ zt := zin_1 (List.mem_of_getElem? (i := 221) rfl) rfl
theorem k170 : Cond.static yJ7_fill_53178 ∈ zt := zin_1 (List.mem_of_getElem? (i := 222) rfl) rfl
theorem k171 : Cond.code yJ7_fill_53178 prog_22_method_103_code (4 : Nat) (Option.none : Option FieldType) ∈ zt := zin_1 (List.mem_of_getElem? (i := 223) rfl) rfl
theorem k172 : Cond.fieldLink "TapeRings$Echo" (9 : Nat) "TapeRings$Echo" "stop" "I" ∈ zt := zin_1 (List.mem_of_getElem? (i := 224) rfl) rfl
theorem k173 : Cond.fieldLink "TapeRings" (237 : Nat) "TapeRings$Echo" "stop" "I" ∈ zt := zin_1 (List.mem_of_getElem? (i := 225) rfl) rfl
theorem k174 : Cond.fieldLink "TapeRings$Echo" (15 : Nat) "TapeRings$Echo" "comesBack" "[I" ∈ zt := zin_1 (List.mem_of_getElem? (i := 226) rfl) rfl
theorem k175 : Cond.fieldLink "TapeRings" (250 : Nat) "TapeRings$Echo" "comesBack" "[I" ∈ zt := zin_1 (List.mem_of_getElem? (i := 227) rfl) rfl
theorem k176 : Cond.fieldLink "TapeRings$Echo" (19 : Nat) "TapeRings$Echo" "weights" "[I" ∈ zt := zin_1 (List.mem_of_getElem? (i := 228) rfl) rfl
theorem k177 : Cond.fieldLink "TapeRings$Echo" (22 : Nat) "TapeRings$Echo" "firstDelay" "I" ∈ zt := zin_1 (List.mem_of_getElem? (i := 229) rfl) rfl
theorem k178 : Cond.fieldLink "TapeRings$Echo" (25 : Nat) "TapeRings$Echo" "firstGain" "I" ∈ zt := zin_1 (List.mem_of_getElem? (i := 230) rfl) rfl
theorem k179 : Cond.fieldLink "TapeRings$Echo" (28 : Nat) "TapeRings$Echo" "secondDelay" "I" ∈ zt := zin_1 (List.mem_of_getElem? (i := 231) rfl) rfl
theorem k180 : Cond.fieldLink "TapeRings$Echo" (31 : Nat) "TapeRings$Echo" "secondGain" "I" ∈ zt := zin_1 (List.mem_of_getElem? (i := 232) rfl) rfl
theorem k181 : Cond.fieldLink "TapeRings$Echo" (34 : Nat) "TapeRings$Echo" "outs" "[I" ∈ zt := zin_1 (List.mem_of_getElem? (i := 233) rfl) rfl
theorem k182 : Cond.lays "TapeRings$Echo" "TapeRings$Echo" "stop" "I" ∈ zt := zin_1 (List.mem_of_getElem? (i := 234) rfl) rfl
theorem k183 : Cond.laysFinal "TapeRings$Echo" "TapeRings$Echo" "comesBack" "[I" ∈ zt := zin_1 (List.mem_of_getElem? (i := 236) rfl) rfl
theorem k184 : Cond.laysFinal "TapeRings$Echo" "TapeRings$Echo" "weights" "[I" ∈ zt := zin_1 (List.mem_of_getElem? (i := 238) rfl) rfl
theorem k185 : Cond.lays "TapeRings$Echo" "TapeRings$Echo" "firstDelay" "I" ∈ zt := zin_2 (List.mem_of_getElem? (i := 0) rfl) rfl
theorem k186 : Cond.lays "TapeRings$Echo" "TapeRings$Echo" "firstGain" "I" ∈ zt := zin_2 (List.mem_of_getElem? (i := 2) rfl) rfl
theorem k187 : Cond.lays "TapeRings$Echo" "TapeRings$Echo" "secondDelay" "I" ∈ zt := zin_2 (List.mem_of_getElem? (i := 4) rfl) rfl
theorem k188 : Cond.lays "TapeRings$Echo" "TapeRings$Echo" "secondGain" "I" ∈ zt := zin_2 (List.mem_of_getElem? (i := 6) rfl) rfl
theorem k189 : Cond.laysFinal "TapeRings$Echo" "TapeRings$Echo" "outs" "[I" ∈ zt := zin_2 (List.mem_of_getElem? (i := 8) rfl) rfl
theorem k190 : Cond.classLink "TapeRings" (51 : Nat) "TapeRings$OldTape" ∈ zt := zin_2 (List.mem_of_getElem? (i := 11) rfl) rfl
theorem k191 : Cond.instantiable "TapeRings$OldTape" (4 : Nat) ∈ zt := zin_2 (List.mem_of_getElem? (i := 12) rfl) rfl
theorem k192 : Cond.instanceMethod yX3_init ∈ zt := zin_2 (List.mem_of_getElem? (i := 14) rfl) rfl
theorem k193 : Cond.code yX3_init prog_5_method_1_code (1 : Nat) (Option.none : Option FieldType) ∈ zt := zin_2 (List.mem_of_getElem? (i := 15) rfl) rfl
theorem k194 : Cond.methodLink "TapeRings$OldTape" (3 : Nat) (⟨"java/lang/Object", "<init>", "()V"⟩ : MethodName) ∈ zt := zin_2 (List.mem_of_getElem? (i := 16) rfl) rfl
theorem k195 : Cond.fieldLink "TapeRings$OldTape" (9 : Nat) "TapeRings$OldTape" "places" "[I" ∈ zt := zin_2 (List.mem_of_getElem? (i := 17) rfl) rfl
theorem k196 : Cond.fieldLink "TapeRings$OldTape" (15 : Nat) "TapeRings$OldTape" "count" "I" ∈ zt := zin_2 (List.mem_of_getElem? (i := 18) rfl) rfl
theorem k197 : Cond.fieldLink "TapeRings" (152 : Nat) "TapeRings$OldTape" "count" "I" ∈ zt := zin_2 (List.mem_of_getElem? (i := 19) rfl) rfl
theorem k198 : Cond.fieldLink "TapeRings$OldTape" (19 : Nat) "TapeRings$OldTape" "first" "[I" ∈ zt := zin_2 (List.mem_of_getElem? (i := 20) rfl) rfl
theorem k199 : Cond.fieldLink "TapeRings$OldTape" (22 : Nat) "TapeRings$OldTape" "second" "[I" ∈ zt := zin_2 (List.mem_of_getElem? (i := 21) rfl) rfl
theorem k200 : Cond.laysFinal "TapeRings$OldTape" "TapeRings$OldTape" "places" "[I" ∈ zt := zin_2 (List.mem_of_getElem? (i := 22) rfl) rfl
theorem k201 : Cond.lays "TapeRings$OldTape" "TapeRings$OldTape" "count" "I" ∈ zt := zin_2 (List.mem_of_getElem? (i := 24) rfl) rfl
theorem k202 : Cond.laysFinal "TapeRings$OldTape" "TapeRings$OldTape" "first" "[I" ∈ zt := zin_2 (List.mem_of_getElem? (i := 26) rfl) rfl
theorem k203 : Cond.laysFinal "TapeRings$OldTape" "TapeRings$OldTape" "second" "[I" ∈ zt := zin_2 (List.mem_of_getElem? (i := 28) rfl) rfl
theorem k204 : Cond.classLink "TapeRings" (58 : Nat) "TapeRings$Pieces" ∈ zt := zin_2 (List.mem_of_getElem? (i := 31) rfl) rfl
theorem k205 : Cond.instantiable "TapeRings$Pieces" (6 : Nat) ∈ zt := zin_2 (List.mem_of_getElem? (i := 32) rfl) rfl
theorem k206 : Cond.instanceMethod yX4_init ∈ zt := zin_2 (List.mem_of_getElem? (i := 34) rfl) rfl
theorem k207 : Cond.code yX4_init prog_6_method_1_code (1 : Nat) (Option.none : Option FieldType) ∈ zt := zin_2 (List.mem_of_getElem? (i := 35) rfl) rfl
theorem k208 : Cond.methodLink "TapeRings$Pieces" (3 : Nat) (⟨"java/lang/Object", "<init>", "()V"⟩ : MethodName) ∈ zt := zin_2 (List.mem_of_getElem? (i := 36) rfl) rfl
theorem k209 : Cond.classLink "TapeRings$Pieces" (22 : Nat) "[[I" ∈ zt := zin_2 (List.mem_of_getElem? (i := 37) rfl) rfl
theorem k210 : Cond.fieldLink "TapeRings$Pieces" (9 : Nat) "TapeRings$Pieces" "count" "I" ∈ zt := zin_2 (List.mem_of_getElem? (i := 38) rfl) rfl
theorem k211 : Cond.fieldLink "TapeRings" (153 : Nat) "TapeRings$Pieces" "count" "I" ∈ zt := zin_2 (List.mem_of_getElem? (i := 39) rfl) rfl
theorem k212 : Cond.fieldLink "TapeRings$Pieces" (15 : Nat) "TapeRings$Pieces" "best" "[I" ∈ zt := zin_2 (List.mem_of_getElem? (i := 40) rfl) rfl
theorem k213 : Cond.fieldLink "TapeRings" (270 : Nat) "TapeRings$Pieces" "best" "[I" ∈ zt := zin_2 (List.mem_of_getElem? (i := 41) rfl) rfl
theorem k214 : Cond.fieldLink "TapeRings$Pieces" (19 : Nat) "TapeRings$Pieces" "bestLength" "I" ∈ zt := zin_2 (List.mem_of_getElem? (i := 42) rfl) rfl
theorem k215 : Cond.fieldLink "TapeRings$Pieces" (24 : Nat) "TapeRings$Pieces" "sounds" "[[I" ∈ zt := zin_2 (List.mem_of_getElem? (i := 43) rfl) rfl
theorem k216 : Cond.fieldLink "TapeRings$Pieces" (27 : Nat) "TapeRings$Pieces" "lengths" "[I" ∈ zt := zin_2 (List.mem_of_getElem? (i := 44) rfl) rfl
theorem k217 : Cond.fieldLink "TapeRings$Pieces" (30 : Nat) "TapeRings$Pieces" "laid" "[I" ∈ zt := zin_2 (List.mem_of_getElem? (i := 45) rfl) rfl
theorem k218 : Cond.lays "TapeRings$Pieces" "TapeRings$Pieces" "count" "I" ∈ zt := zin_2 (List.mem_of_getElem? (i := 46) rfl) rfl
theorem k219 : Cond.laysFinal "TapeRings$Pieces" "TapeRings$Pieces" "best" "[I" ∈ zt := zin_2 (List.mem_of_getElem? (i := 48) rfl) rfl
theorem k220 : Cond.lays "TapeRings$Pieces" "TapeRings$Pieces" "bestLength" "I" ∈ zt := zin_2 (List.mem_of_getElem? (i := 50) rfl) rfl
theorem k221 : Cond.laysFinal "TapeRings$Pieces" "TapeRings$Pieces" "sounds" "[[I" ∈ zt := zin_2 (List.mem_of_getElem? (i := 52) rfl) rfl
theorem k222 : Cond.laysFinal "TapeRings$Pieces" "TapeRings$Pieces" "lengths" "[I" ∈ zt := zin_2 (List.mem_of_getElem? (i := 54) rfl) rfl
theorem k223 : Cond.laysFinal "TapeRings$Pieces" "TapeRings$Pieces" "laid" "[I" ∈ zt := zin_2 (List.mem_of_getElem? (i := 56) rfl) rfl
theorem k224 : Cond.classLink "TapeRings" (65 : Nat) "TapeRings$Versions" ∈ zt := zin_2 (List.mem_of_getElem? (i := 59) rfl) rfl
theorem k225 : Cond.instantiable "TapeRings$Versions" (5 : Nat) ∈ zt := zin_2 (List.mem_of_getElem? (i := 60) rfl) rfl
theorem k226 : Cond.methodLink "TapeRings" (67 : Nat) yX10_init ∈ zt := zin_2 (List.mem_of_getElem? (i := 61) rfl) rfl
theorem k227 : Cond.instanceMethod yX10_init ∈ zt := zin_2 (List.mem_of_getElem? (i := 62) rfl) rfl
theorem k228 : Cond.code yX10_init prog_12_method_1_code (2 : Nat) (Option.none : Option FieldType) ∈ zt := zin_2 (List.mem_of_getElem? (i := 63) rfl) rfl
theorem k229 : Cond.methodLink "TapeRings$Versions" (3 : Nat) (⟨"java/lang/Object", "<init>", "()V"⟩ : MethodName) ∈ zt := zin_2 (List.mem_of_getElem? (i := 64) rfl) rfl
theorem k230 : Cond.classLink "TapeRings$Versions" (15 : Nat) "TapeRings$Strip" ∈ zt := zin_2 (List.mem_of_getElem? (i := 65) rfl) rfl
theorem k231 : Cond.fieldLink "TapeRings$Versions" (9 : Nat) "TapeRings$Versions" "count" "I" ∈ zt := zin_2 (List.mem_of_getElem? (i := 67) rfl) rfl
theorem k232 : Cond.fieldLink "TapeRings" (154 : Nat) "TapeRings$Versions" "count" "I" ∈ zt := zin_2 (List.mem_of_getElem? (i := 68) rfl) rfl
theorem k233 : Cond.fieldLink "TapeRings$Versions" (17 : Nat) "TapeRings$Versions" "strips" "[LTapeRings$Strip;" ∈ zt := zin_2 (List.mem_of_getElem? (i := 69) rfl) rfl
theorem k234 : Cond.fieldLink "TapeRings$Versions" (21 : Nat) "TapeRings$Versions" "rings" "[I" ∈ zt := zin_2 (List.mem_of_getElem? (i := 70) rfl) rfl
theorem k235 : Cond.fieldLink "TapeRings$Versions" (25 : Nat) "TapeRings$Versions" "days" "[I" ∈ zt := zin_2 (List.mem_of_getElem? (i := 71) rfl) rfl
theorem k236 : Cond.fieldLink "TapeRings$Versions" (28 : Nat) "TapeRings$Versions" "steps" "[I" ∈ zt := zin_2 (List.mem_of_getElem? (i := 72) rfl) rfl
theorem k237 : Cond.lays "TapeRings$Versions" "TapeRings$Versions" "count" "I" ∈ zt := zin_2 (List.mem_of_getElem? (i := 73) rfl) rfl
theorem k238 : Cond.laysFinal "TapeRings$Versions" "TapeRings$Versions" "strips" "[LTapeRings$Strip;" ∈ zt := zin_2 (List.mem_of_getElem? (i := 75) rfl) rfl
theorem k239 : Cond.laysFinal "TapeRings$Versions" "TapeRings$Versions" "rings" "[I" ∈ zt := zin_2 (List.mem_of_getElem? (i := 77) rfl) rfl
theorem k240 : Cond.laysFinal "TapeRings$Versions" "TapeRings$Versions" "days" "[I" ∈ zt := zin_2 (List.mem_of_getElem? (i := 79) rfl) rfl
theorem k241 : Cond.laysFinal "TapeRings$Versions" "TapeRings$Versions" "steps" "[I" ∈ zt := zin_2 (List.mem_of_getElem? (i := 81) rfl) rfl
theorem k242 : Cond.fieldLink "TapeRings" (12 : Nat) "TapeRings" "text" "LTapeRings$Splicer;" ∈ zt := zin_2 (List.mem_of_getElem? (i := 84) rfl) rfl
theorem k243 : Cond.fieldLink "TapeRings" (19 : Nat) "TapeRings" "inHand" "LTapeRings$Strip;" ∈ zt := zin_2 (List.mem_of_getElem? (i := 85) rfl) rfl
theorem k244 : Cond.fieldLink "TapeRings" (26 : Nat) "TapeRings" "studio" "LTapeRings$Studio;" ∈ zt := zin_2 (List.mem_of_getElem? (i := 86) rfl) rfl
theorem k245 : Cond.fieldLink "TapeRings" (33 : Nat) "TapeRings" "meeting" "LTapeRings$Meeting;" ∈ zt := zin_2 (List.mem_of_getElem? (i := 87) rfl) rfl
theorem k246 : Cond.fieldLink "TapeRings" (40 : Nat) "TapeRings" "planner" "LTapeRings$Planner;" ∈ zt := zin_2 (List.mem_of_getElem? (i := 88) rfl) rfl
theorem k247 : Cond.fieldLink "TapeRings" (47 : Nat) "TapeRings" "echo" "LTapeRings$Echo;" ∈ zt := zin_2 (List.mem_of_getElem? (i := 89) rfl) rfl
theorem k248 : Cond.fieldLink "TapeRings" (54 : Nat) "TapeRings" "old" "LTapeRings$OldTape;" ∈ zt := zin_2 (List.mem_of_getElem? (i := 90) rfl) rfl
theorem k249 : Cond.fieldLink "TapeRings" (61 : Nat) "TapeRings" "pieces" "LTapeRings$Pieces;" ∈ zt := zin_2 (List.mem_of_getElem? (i := 91) rfl) rfl
theorem k250 : Cond.fieldLink "TapeRings" (68 : Nat) "TapeRings" "versions" "LTapeRings$Versions;" ∈ zt := zin_2 (List.mem_of_getElem? (i := 92) rfl) rfl
theorem k251 : Cond.fieldLink "TapeRings" (72 : Nat) "TapeRings" "told" "[I" ∈ zt := zin_2 (List.mem_of_getElem? (i := 93) rfl) rfl
theorem k252 : Cond.fieldLink "TapeRings" (76 : Nat) "TapeRings" "toldCount" "I" ∈ zt := zin_2 (List.mem_of_getElem? (i := 94) rfl) rfl
theorem k253 : Cond.laysFinal "TapeRings" "TapeRings" "text" "LTapeRings$Splicer;" ∈ zt := zin_2 (List.mem_of_getElem? (i := 95) rfl) rfl
theorem k254 : Cond.laysFinal "TapeRings" "TapeRings" "inHand" "LTapeRings$Strip;" ∈ zt := zin_2 (List.mem_of_getElem? (i := 97) rfl) rfl
theorem k255 : Cond.laysFinal "TapeRings" "TapeRings" "studio" "LTapeRings$Studio;" ∈ zt := zin_2 (List.mem_of_getElem? (i := 99) rfl) rfl
theorem k256 : Cond.laysFinal "TapeRings" "TapeRings" "meeting" "LTapeRings$Meeting;" ∈ zt := zin_2 (List.mem_of_getElem? (i := 101) rfl) rfl
theorem k257 : Cond.laysFinal "TapeRings" "TapeRings" "planner" "LTapeRings$Planner;" ∈ zt := zin_2 (List.mem_of_getElem? (i := 103) rfl) rfl
theorem k258 : Cond.laysFinal "TapeRings" "TapeRings" "echo" "LTapeRings$Echo;" ∈ zt := zin_2 (List.mem_of_getElem? (i := 105) rfl) rfl
theorem k259 : Cond.laysFinal "TapeRings" "TapeRings" "old" "LTapeRings$OldTape;" ∈ zt := zin_2 (List.mem_of_getElem? (i := 107) rfl) rfl
theorem k260 : Cond.laysFinal "TapeRings" "TapeRings" "pieces" "LTapeRings$Pieces;" ∈ zt := zin_2 (List.mem_of_getElem? (i := 109) rfl) rfl
theorem k261 : Cond.laysFinal "TapeRings" "TapeRings" "versions" "LTapeRings$Versions;" ∈ zt := zin_2 (List.mem_of_getElem? (i := 111) rfl) rfl
theorem k262 : Cond.laysFinal "TapeRings" "TapeRings" "told" "[I" ∈ zt := zin_2 (List.mem_of_getElem? (i := 113) rfl) rfl
theorem k263 : Cond.lays "TapeRings" "TapeRings" "toldCount" "I" ∈ zt := zin_2 (List.mem_of_getElem? (i := 115) rfl) rfl
theorem k264 : Cond.methodLink "TapeRingsLaw" (27 : Nat) yX11_sign ∈ zt := zin_2 (List.mem_of_getElem? (i := 118) rfl) rfl
theorem k265 : Cond.instanceMethod yX11_sign ∈ zt := zin_2 (List.mem_of_getElem? (i := 119) rfl) rfl
theorem k266 : Cond.selects "TapeRings" yX11_sign yX11_sign ∈ zt := zin_2 (List.mem_of_getElem? (i := 120) rfl) rfl
theorem k267 : Cond.code yX11_sign prog_1_method_2_code (2 : Nat) (Option.some FieldType.int) ∈ zt := zin_2 (List.mem_of_getElem? (i := 121) rfl) rfl
theorem k268 : Cond.methodLink "TapeRings" (80 : Nat) yX7_add ∈ zt := zin_2 (List.mem_of_getElem? (i := 122) rfl) rfl
theorem k269 : Cond.instanceMethod yX7_add ∈ zt := zin_2 (List.mem_of_getElem? (i := 123) rfl) rfl
theorem k270 : Cond.selects "TapeRings$Splicer" yX7_add yX7_add ∈ zt := zin_2 (List.mem_of_getElem? (i := 124) rfl) rfl
theorem k271 : Cond.code yX7_add prog_9_method_2_code (3 : Nat) (Option.some FieldType.int) ∈ zt := zin_2 (List.mem_of_getElem? (i := 125) rfl) rfl
theorem k272 : Cond.methodLink "TapeRingsLaw" (31 : Nat) yX11_end ∈ zt := zin_2 (List.mem_of_getElem? (i := 126) rfl) rfl
theorem k273 : Cond.instanceMethod yX11_end ∈ zt := zin_2 (List.mem_of_getElem? (i := 127) rfl) rfl
theorem k274 : Cond.selects "TapeRings" yX11_end yX11_end ∈ zt := zin_2 (List.mem_of_getElem? (i := 128) rfl) rfl
theorem k275 : Cond.code yX11_end prog_1_method_3_code (2 : Nat) (Option.some FieldType.boolean) ∈ zt := zin_2 (List.mem_of_getElem? (i := 129) rfl) rfl
theorem k276 : Cond.methodLink "TapeRings" (84 : Nat) yX7_keepFirst ∈ zt := zin_2 (List.mem_of_getElem? (i := 130) rfl) rfl
theorem k277 : Cond.instanceMethod yX7_keepFirst ∈ zt := zin_2 (List.mem_of_getElem? (i := 131) rfl) rfl
theorem k278 : Cond.selects "TapeRings$Splicer" yX7_keepFirst yX7_keepFirst ∈ zt := zin_2 (List.mem_of_getElem? (i := 132) rfl) rfl
theorem k279 : Cond.code yX7_keepFirst prog_9_method_3_code (2 : Nat) (Option.some FieldType.boolean) ∈ zt := zin_2 (List.mem_of_getElem? (i := 133) rfl) rfl
theorem k280 : Cond.methodLink "TapeRingsLaw" (36 : Nat) yX11_splice ∈ zt := zin_2 (List.mem_of_getElem? (i := 134) rfl) rfl
theorem k281 : Cond.instanceMethod yX11_splice ∈ zt := zin_2 (List.mem_of_getElem? (i := 135) rfl) rfl
theorem k282 : Cond.selects "TapeRings" yX11_splice yX11_splice ∈ zt := zin_2 (List.mem_of_getElem? (i := 136) rfl) rfl
theorem k283 : Cond.code yX11_splice prog_1_method_4_code (1 : Nat) (Option.some FieldType.int) ∈ zt := zin_2 (List.mem_of_getElem? (i := 137) rfl) rfl
theorem k284 : Cond.methodLink "TapeRings" (88 : Nat) yX7_putInto ∈ zt := zin_2 (List.mem_of_getElem? (i := 138) rfl) rfl
theorem k285 : Cond.instanceMethod yX7_putInto ∈ zt := zin_2 (List.mem_of_getElem? (i := 139) rfl) rfl
theorem k286 : Cond.selects "TapeRings$Splicer" yX7_putInto yX7_putInto ∈ zt := zin_2 (List.mem_of_getElem? (i := 140) rfl) rfl
theorem k287 : Cond.code yX7_putInto prog_9_method_4_code (4 : Nat) (Option.some FieldType.int) ∈ zt := zin_2 (List.mem_of_getElem? (i := 141) rfl) rfl
theorem k288 : Cond.methodLink "TapeRings$Splicer" (38 : Nat) yX7_firstWrong ∈ zt := zin_2 (List.mem_of_getElem? (i := 142) rfl) rfl
theorem k289 : Cond.instanceMethod yX7_firstWrong ∈ zt := zin_2 (List.mem_of_getElem? (i := 144) rfl) rfl
theorem k290 : Cond.code yX7_firstWrong prog_9_method_5_code (3 : Nat) (Option.some FieldType.int) ∈ zt := zin_2 (List.mem_of_getElem? (i := 145) rfl) rfl
theorem k291 : Cond.methodLink "TapeRings$Splicer" (52 : Nat) yX7_behind ∈ zt := zin_2 (List.mem_of_getElem? (i := 146) rfl) rfl
theorem k292 : Cond.instanceMethod yX7_behind ∈ zt := zin_2 (List.mem_of_getElem? (i := 148) rfl) rfl
theorem k293 : Cond.code yX7_behind prog_9_method_6_code (3 : Nat) (Option.some FieldType.int) ∈ zt := zin_2 (List.mem_of_getElem? (i := 149) rfl) rfl
theorem k294 : Cond.methodLink "TapeRings$Splicer" (56 : Nat) yX7_behindAtomStart ∈ zt := zin_2 (List.mem_of_getElem? (i := 150) rfl) rfl
theorem k295 : Cond.instanceMethod yX7_behindAtomStart ∈ zt := zin_2 (List.mem_of_getElem? (i := 152) rfl) rfl
theorem k296 : Cond.code yX7_behindAtomStart prog_9_method_7_code (2 : Nat) (Option.some FieldType.int) ∈ zt := zin_2 (List.mem_of_getElem? (i := 153) rfl) rfl
theorem k297 : Cond.methodLink "TapeRings$Splicer" (63 : Nat) yX7_isDigit ∈ zt := zin_2 (List.mem_of_getElem? (i := 154) rfl) rfl
theorem k298 : Cond.static yX7_isDigit ∈ zt := zin_2 (List.mem_of_getElem? (i := 155) rfl) rfl
theorem k299 : Cond.code yX7_isDigit prog_9_method_9_code (2 : Nat) (Option.some FieldType.boolean) ∈ zt := zin_2 (List.mem_of_getElem? (i := 156) rfl) rfl
theorem k300 : Cond.methodLink "TapeRings$Splicer" (60 : Nat) yX7_behindTermSign ∈ zt := zin_2 (List.mem_of_getElem? (i := 157) rfl) rfl
theorem k301 : Cond.instanceMethod yX7_behindTermSign ∈ zt := zin_2 (List.mem_of_getElem? (i := 159) rfl) rfl
theorem k302 : Cond.code yX7_behindTermSign prog_9_method_8_code (2 : Nat) (Option.some FieldType.int) ∈ zt := zin_2 (List.mem_of_getElem? (i := 160) rfl) rfl
theorem k303 : Cond.methodLink "TapeRings$Splicer" (42 : Nat) yX7_putTogether ∈ zt := zin_2 (List.mem_of_getElem? (i := 161) rfl) rfl
theorem k304 : Cond.instanceMethod yX7_putTogether ∈ zt := zin_2 (List.mem_of_getElem? (i := 163) rfl) rfl
theorem k305 : Cond.code yX7_putTogether prog_9_method_10_code (3 : Nat) (Option.some FieldType.int) ∈ zt := zin_2 (List.mem_of_getElem? (i := 164) rfl) rfl
theorem k306 : Cond.methodLink "TapeRings$Splicer" (67 : Nat) yX7_openRow ∈ zt := zin_2 (List.mem_of_getElem? (i := 165) rfl) rfl
theorem k307 : Cond.instanceMethod yX7_openRow ∈ zt := zin_2 (List.mem_of_getElem? (i := 167) rfl) rfl
theorem k308 : Cond.code yX7_openRow prog_9_method_16_code (1 : Nat) (Option.none : Option FieldType) ∈ zt := zin_2 (List.mem_of_getElem? (i := 168) rfl) rfl
theorem k309 : Cond.methodLink "TapeRings$Splicer" (70 : Nat) yX7_readDigit ∈ zt := zin_2 (List.mem_of_getElem? (i := 169) rfl) rfl
theorem k310 : Cond.instanceMethod yX7_readDigit ∈ zt := zin_2 (List.mem_of_getElem? (i := 171) rfl) rfl
theorem k311 : Cond.code yX7_readDigit prog_9_method_12_code (2 : Nat) (Option.some FieldType.int) ∈ zt := zin_2 (List.mem_of_getElem? (i := 172) rfl) rfl
theorem k312 : Cond.methodLink "TapeRings$Splicer" (91 : Nat) yX7_repeatTerm ∈ zt := zin_2 (List.mem_of_getElem? (i := 173) rfl) rfl
theorem k313 : Cond.instanceMethod yX7_repeatTerm ∈ zt := zin_2 (List.mem_of_getElem? (i := 175) rfl) rfl
theorem k314 : Cond.code yX7_repeatTerm prog_9_method_14_code (2 : Nat) (Option.some FieldType.int) ∈ zt := zin_2 (List.mem_of_getElem? (i := 176) rfl) rfl
theorem k315 : Cond.methodLink "TapeRings$Splicer" (102 : Nat) yX8_repeat ∈ zt := zin_2 (List.mem_of_getElem? (i := 177) rfl) rfl
theorem k316 : Cond.instanceMethod yX8_repeat ∈ zt := zin_2 (List.mem_of_getElem? (i := 178) rfl) rfl
theorem k317 : Cond.selects "TapeRings$Strip" yX8_repeat yX8_repeat ∈ zt := zin_2 (List.mem_of_getElem? (i := 179) rfl) rfl
theorem k318 : Cond.code yX8_repeat prog_10_method_7_code (4 : Nat) (Option.none : Option FieldType) ∈ zt := zin_2 (List.mem_of_getElem? (i := 180) rfl) rfl
theorem k319 : Cond.methodLink "TapeRings$Strip" (29 : Nat) yJ9_min_7cf53 ∈ zt := zin_2 (List.mem_of_getElem? (i := 181) rfl) rfl
theorem k320 : Cond.static yJ9_min_7cf53 ∈ zt := zin_2 (List.mem_of_getElem? (i := 182) rfl) rfl
theorem k321 : Cond.code yJ9_min_7cf53 prog_18_method_69_code (2 : Nat) (Option.some FieldType.int) ∈ zt := zin_2 (List.mem_of_getElem? (i := 183) rfl) rfl
theorem k322 : Cond.methodLink "TapeRings$Splicer" (94 : Nat) yX8_addTo ∈ zt := zin_2 (List.mem_of_getElem? (i := 184) rfl) rfl
theorem k323 : Cond.instanceMethod yX8_addTo ∈ zt := zin_2 (List.mem_of_getElem? (i := 185) rfl) rfl
theorem k324 : Cond.selects "TapeRings$Strip" yX8_addTo yX8_addTo ∈ zt := zin_2 (List.mem_of_getElem? (i := 186) rfl) rfl
theorem k325 : Cond.code yX8_addTo prog_10_method_6_code (3 : Nat) (Option.none : Option FieldType) ∈ zt := zin_2 (List.mem_of_getElem? (i := 187) rfl) rfl
theorem k326 : Cond.methodLink "TapeRings$Strip" (19 : Nat) yX8_has ∈ zt := zin_2 (List.mem_of_getElem? (i := 188) rfl) rfl
theorem k327 : Cond.instanceMethod yX8_has ∈ zt := zin_2 (List.mem_of_getElem? (i := 189) rfl) rfl
theorem k328 : Cond.selects "TapeRings$Strip" yX8_has yX8_has ∈ zt := zin_2 (List.mem_of_getElem? (i := 190) rfl) rfl
theorem k329 : Cond.code yX8_has prog_10_method_2_code (2 : Nat) (Option.some FieldType.boolean) ∈ zt := zin_2 (List.mem_of_getElem? (i := 191) rfl) rfl
theorem k330 : Cond.methodLink "TapeRings$Splicer" (82 : Nat) yX7_beginTerm ∈ zt := zin_2 (List.mem_of_getElem? (i := 192) rfl) rfl
theorem k331 : Cond.instanceMethod yX7_beginTerm ∈ zt := zin_2 (List.mem_of_getElem? (i := 194) rfl) rfl
theorem k332 : Cond.code yX7_beginTerm prog_9_method_13_code (3 : Nat) (Option.some FieldType.int) ∈ zt := zin_2 (List.mem_of_getElem? (i := 195) rfl) rfl
theorem k333 : Cond.methodLink "TapeRings$Splicer" (76 : Nat) yX7_layTerm ∈ zt := zin_2 (List.mem_of_getElem? (i := 196) rfl) rfl
theorem k334 : Cond.instanceMethod yX7_layTerm ∈ zt := zin_2 (List.mem_of_getElem? (i := 198) rfl) rfl
theorem k335 : Cond.code yX7_layTerm prog_9_method_15_code (4 : Nat) (Option.some FieldType.int) ∈ zt := zin_2 (List.mem_of_getElem? (i := 199) rfl) rfl
theorem k336 : Cond.methodLink "TapeRings$Splicer" (105 : Nat) yX8_putBehind ∈ zt := zin_2 (List.mem_of_getElem? (i := 200) rfl) rfl
theorem k337 : Cond.instanceMethod yX8_putBehind ∈ zt := zin_2 (List.mem_of_getElem? (i := 201) rfl) rfl
theorem k338 : Cond.selects "TapeRings$Strip" yX8_putBehind yX8_putBehind ∈ zt := zin_2 (List.mem_of_getElem? (i := 202) rfl) rfl
theorem k339 : Cond.code yX8_putBehind prog_10_method_9_code (5 : Nat) (Option.none : Option FieldType) ∈ zt := zin_2 (List.mem_of_getElem? (i := 203) rfl) rfl
theorem k340 : Cond.methodLink "TapeRings$Strip" (35 : Nat) yJ9_max_7cf53 ∈ zt := zin_2 (List.mem_of_getElem? (i := 204) rfl) rfl
theorem k341 : Cond.static yJ9_max_7cf53 ∈ zt := zin_2 (List.mem_of_getElem? (i := 205) rfl) rfl
theorem k342 : Cond.code yJ9_max_7cf53 prog_18_method_65_code (2 : Nat) (Option.some FieldType.int) ∈ zt := zin_2 (List.mem_of_getElem? (i := 206) rfl) rfl
theorem k343 : Cond.methodLink "TapeRings$Splicer" (98 : Nat) yX8_becomeInch ∈ zt := zin_2 (List.mem_of_getElem? (i := 207) rfl) rfl
theorem k344 : Cond.instanceMethod yX8_becomeInch ∈ zt := zin_2 (List.mem_of_getElem? (i := 208) rfl) rfl
theorem k345 : Cond.selects "TapeRings$Strip" yX8_becomeInch yX8_becomeInch ∈ zt := zin_2 (List.mem_of_getElem? (i := 209) rfl) rfl
theorem k346 : Cond.code yX8_becomeInch prog_10_method_5_code (2 : Nat) (Option.none : Option FieldType) ∈ zt := zin_2 (List.mem_of_getElem? (i := 210) rfl) rfl
theorem k347 : Cond.methodLink "TapeRings$Splicer" (73 : Nat) yX7_readSign ∈ zt := zin_2 (List.mem_of_getElem? (i := 211) rfl) rfl
theorem k348 : Cond.instanceMethod yX7_readSign ∈ zt := zin_2 (List.mem_of_getElem? (i := 213) rfl) rfl
theorem k349 : Cond.code yX7_readSign prog_9_method_11_code (2 : Nat) (Option.some FieldType.int) ∈ zt := zin_2 (List.mem_of_getElem? (i := 214) rfl) rfl
theorem k350 : Cond.methodLink "TapeRings$Splicer" (79 : Nat) yX8_turn ∈ zt := zin_2 (List.mem_of_getElem? (i := 215) rfl) rfl
theorem k351 : Cond.instanceMethod yX8_turn ∈ zt := zin_2 (List.mem_of_getElem? (i := 216) rfl) rfl
theorem k352 : Cond.selects "TapeRings$Strip" yX8_turn yX8_turn ∈ zt := zin_2 (List.mem_of_getElem? (i := 217) rfl) rfl
theorem k353 : Cond.code yX8_turn prog_10_method_8_code (3 : Nat) (Option.none : Option FieldType) ∈ zt := zin_2 (List.mem_of_getElem? (i := 218) rfl) rfl
theorem k354 : Cond.methodLink "TapeRings$Splicer" (85 : Nat) yX7_open ∈ zt := zin_2 (List.mem_of_getElem? (i := 219) rfl) rfl
theorem k355 : Cond.instanceMethod yX7_open ∈ zt := zin_2 (List.mem_of_getElem? (i := 221) rfl) rfl
theorem k356 : Cond.code yX7_open prog_9_method_17_code (2 : Nat) (Option.some FieldType.int) ∈ zt := zin_2 (List.mem_of_getElem? (i := 222) rfl) rfl
theorem k357 : Cond.methodLink "TapeRings$Splicer" (88 : Nat) yX7_close ∈ zt := zin_2 (List.mem_of_getElem? (i := 223) rfl) rfl
theorem k358 : Cond.instanceMethod yX7_close ∈ zt := zin_2 (List.mem_of_getElem? (i := 225) rfl) rfl
theorem k359 : Cond.code yX7_close prog_9_method_18_code (2 : Nat) (Option.some FieldType.int) ∈ zt := zin_2 (List.mem_of_getElem? (i := 226) rfl) rfl
theorem k360 : Cond.methodLink "TapeRings$Splicer" (45 : Nat) yX8_copy ∈ zt := zin_2 (List.mem_of_getElem? (i := 227) rfl) rfl
theorem k361 : Cond.instanceMethod yX8_copy ∈ zt := zin_2 (List.mem_of_getElem? (i := 228) rfl) rfl
theorem k362 : Cond.selects "TapeRings$Strip" yX8_copy yX8_copy ∈ zt := zin_2 (List.mem_of_getElem? (i := 229) rfl) rfl
theorem k363 : Cond.code yX8_copy prog_10_method_4_code (2 : Nat) (Option.none : Option FieldType) ∈ zt := zin_2 (List.mem_of_getElem? (i := 230) rfl) rfl
theorem k364 : Cond.methodLink "TapeRings$Strip" (23 : Nat) (⟨"java/lang/System", "arraycopy", "(Ljava/lang/Object;ILjava/lang/Object;II)V"⟩ : MethodName) ∈ zt := zin_2 (List.mem_of_getElem? (i := 231) rfl) rfl
theorem k365 : Cond.static (⟨"java/lang/System", "arraycopy", "(Ljava/lang/Object;ILjava/lang/Object;II)V"⟩ : MethodName) ∈ zt := zin_2 (List.mem_of_getElem? (i := 232) rfl) rfl
theorem k366 : Cond.native (⟨"java/lang/System", "arraycopy", "(Ljava/lang/Object;ILjava/lang/Object;II)V"⟩ : MethodName) ∈ zt := zin_2 (List.mem_of_getElem? (i := 233) rfl) rfl
theorem k367 : Cond.methodLink "TapeRingsLaw" (41 : Nat) yX11_hand ∈ zt := zin_2 (List.mem_of_getElem? (i := 234) rfl) rfl
theorem k368 : Cond.instanceMethod yX11_hand ∈ zt := zin_2 (List.mem_of_getElem? (i := 235) rfl) rfl
theorem k369 : Cond.selects "TapeRings" yX11_hand yX11_hand ∈ zt := zin_2 (List.mem_of_getElem? (i := 236) rfl) rfl
theorem k370 : Cond.code yX11_hand prog_1_method_5_code (2 : Nat) (Option.some FieldType.int) ∈ zt := zin_2 (List.mem_of_getElem? (i := 237) rfl) rfl
theorem k371 : Cond.methodLink "TapeRings" (92 : Nat) yX8_at ∈ zt := zin_2 (List.mem_of_getElem? (i := 238) rfl) rfl
theorem k372 : Cond.instanceMethod yX8_at ∈ zt := zin_2 (List.mem_of_getElem? (i := 239) rfl) rfl
theorem k373 : Cond.selects "TapeRings$Strip" yX8_at yX8_at ∈ zt := zin_3 (List.mem_of_getElem? (i := 0) rfl) rfl
theorem k374 : Cond.code yX8_at prog_10_method_3_code (2 : Nat) (Option.some FieldType.int) ∈ zt := zin_3 (List.mem_of_getElem? (i := 1) rfl) rfl
theorem k375 : Cond.methodLink "TapeRingsLaw" (45 : Nat) yX11_ring ∈ zt := zin_3 (List.mem_of_getElem? (i := 2) rfl) rfl
theorem k376 : Cond.instanceMethod yX11_ring ∈ zt := zin_3 (List.mem_of_getElem? (i := 3) rfl) rfl
theorem k377 : Cond.selects "TapeRings" yX11_ring yX11_ring ∈ zt := zin_3 (List.mem_of_getElem? (i := 4) rfl) rfl
theorem k378 : Cond.code yX11_ring prog_1_method_6_code (3 : Nat) (Option.some FieldType.int) ∈ zt := zin_3 (List.mem_of_getElem? (i := 5) rfl) rfl
theorem k379 : Cond.methodLink "TapeRings" (95 : Nat) yX11_isMotor ∈ zt := zin_3 (List.mem_of_getElem? (i := 6) rfl) rfl
theorem k380 : Cond.static yX11_isMotor ∈ zt := zin_3 (List.mem_of_getElem? (i := 7) rfl) rfl
theorem k381 : Cond.code yX11_isMotor prog_1_method_48_code (1 : Nat) (Option.some FieldType.boolean) ∈ zt := zin_3 (List.mem_of_getElem? (i := 8) rfl) rfl
theorem k382 : Cond.methodLink "TapeRings" (113 : Nat) yX11_within ∈ zt := zin_3 (List.mem_of_getElem? (i := 9) rfl) rfl
theorem k383 : Cond.static yX11_within ∈ zt := zin_3 (List.mem_of_getElem? (i := 10) rfl) rfl
theorem k384 : Cond.code yX11_within prog_1_method_47_code (3 : Nat) (Option.some FieldType.boolean) ∈ zt := zin_3 (List.mem_of_getElem? (i := 11) rfl) rfl
theorem k385 : Cond.methodLink "TapeRings" (98 : Nat) yX8_has ∈ zt := zin_3 (List.mem_of_getElem? (i := 12) rfl) rfl
theorem k386 : Cond.methodLink "TapeRings" (101 : Nat) yX9_add ∈ zt := zin_3 (List.mem_of_getElem? (i := 13) rfl) rfl
theorem k387 : Cond.instanceMethod yX9_add ∈ zt := zin_3 (List.mem_of_getElem? (i := 14) rfl) rfl
theorem k388 : Cond.selects "TapeRings$Studio" yX9_add yX9_add ∈ zt := zin_3 (List.mem_of_getElem? (i := 15) rfl) rfl
theorem k389 : Cond.code yX9_add prog_11_method_3_code (4 : Nat) (Option.some FieldType.int) ∈ zt := zin_3 (List.mem_of_getElem? (i := 16) rfl) rfl
theorem k390 : Cond.methodLink "TapeRings$Studio" (29 : Nat) yX6_begin ∈ zt := zin_3 (List.mem_of_getElem? (i := 17) rfl) rfl
theorem k391 : Cond.instanceMethod yX6_begin ∈ zt := zin_3 (List.mem_of_getElem? (i := 18) rfl) rfl
theorem k392 : Cond.selects "TapeRings$Ring" yX6_begin yX6_begin ∈ zt := zin_3 (List.mem_of_getElem? (i := 19) rfl) rfl
theorem k393 : Cond.code yX6_begin prog_8_method_2_code (4 : Nat) (Option.none : Option FieldType) ∈ zt := zin_3 (List.mem_of_getElem? (i := 20) rfl) rfl
theorem k394 : Cond.methodLink "TapeRings$Ring" (35 : Nat) yX8_copy ∈ zt := zin_3 (List.mem_of_getElem? (i := 21) rfl) rfl
theorem k395 : Cond.methodLink "TapeRings$Ring" (39 : Nat) yX6_listen ∈ zt := zin_3 (List.mem_of_getElem? (i := 22) rfl) rfl
theorem k396 : Cond.instanceMethod yX6_listen ∈ zt := zin_3 (List.mem_of_getElem? (i := 24) rfl) rfl
theorem k397 : Cond.code yX6_listen prog_8_method_3_code (1 : Nat) (Option.none : Option FieldType) ∈ zt := zin_3 (List.mem_of_getElem? (i := 25) rfl) rfl
theorem k398 : Cond.methodLink "TapeRings$Ring" (45 : Nat) yX6_fillUnder ∈ zt := zin_3 (List.mem_of_getElem? (i := 26) rfl) rfl
theorem k399 : Cond.instanceMethod yX6_fillUnder ∈ zt := zin_3 (List.mem_of_getElem? (i := 27) rfl) rfl
theorem k400 : Cond.selects "TapeRings$Ring" yX6_fillUnder yX6_fillUnder ∈ zt := zin_3 (List.mem_of_getElem? (i := 28) rfl) rfl
theorem k401 : Cond.code yX6_fillUnder prog_8_method_4_code (4 : Nat) (Option.none : Option FieldType) ∈ zt := zin_3 (List.mem_of_getElem? (i := 29) rfl) rfl
theorem k402 : Cond.methodLink "TapeRings$Ring" (49 : Nat) yX6_soundsUnder ∈ zt := zin_3 (List.mem_of_getElem? (i := 30) rfl) rfl
theorem k403 : Cond.instanceMethod yX6_soundsUnder ∈ zt := zin_3 (List.mem_of_getElem? (i := 32) rfl) rfl
theorem k404 : Cond.code yX6_soundsUnder prog_8_method_5_code (5 : Nat) (Option.some FieldType.int) ∈ zt := zin_3 (List.mem_of_getElem? (i := 33) rfl) rfl
theorem k405 : Cond.static yX11_by ∈ zt := zin_3 (List.mem_of_getElem? (i := 35) rfl) rfl
theorem k406 : Cond.code yX11_by prog_1_method_51_code (4 : Nat) (Option.some FieldType.int) ∈ zt := zin_3 (List.mem_of_getElem? (i := 36) rfl) rfl
theorem k407 : Cond.methodLink "TapeRingsLaw" (49 : Nat) yX11_over ∈ zt := zin_3 (List.mem_of_getElem? (i := 37) rfl) rfl
theorem k408 : Cond.instanceMethod yX11_over ∈ zt := zin_3 (List.mem_of_getElem? (i := 38) rfl) rfl
theorem k409 : Cond.selects "TapeRings" yX11_over yX11_over ∈ zt := zin_3 (List.mem_of_getElem? (i := 39) rfl) rfl
theorem k410 : Cond.code yX11_over prog_1_method_7_code (5 : Nat) (Option.some FieldType.int) ∈ zt := zin_3 (List.mem_of_getElem? (i := 40) rfl) rfl
theorem k411 : Cond.methodLink "TapeRings" (104 : Nat) yX9_find ∈ zt := zin_3 (List.mem_of_getElem? (i := 41) rfl) rfl
theorem k412 : Cond.instanceMethod yX9_find ∈ zt := zin_3 (List.mem_of_getElem? (i := 42) rfl) rfl
theorem k413 : Cond.selects "TapeRings$Studio" yX9_find yX9_find ∈ zt := zin_3 (List.mem_of_getElem? (i := 43) rfl) rfl
theorem k414 : Cond.code yX9_find prog_11_method_2_code (2 : Nat) (Option.some (FieldType.object "TapeRings$Ring")) ∈ zt := zin_3 (List.mem_of_getElem? (i := 44) rfl) rfl
theorem k415 : Cond.methodLink "TapeRings" (120 : Nat) yX6_layOver ∈ zt := zin_3 (List.mem_of_getElem? (i := 45) rfl) rfl
theorem k416 : Cond.instanceMethod yX6_layOver ∈ zt := zin_3 (List.mem_of_getElem? (i := 46) rfl) rfl
theorem k417 : Cond.selects "TapeRings$Ring" yX6_layOver yX6_layOver ∈ zt := zin_3 (List.mem_of_getElem? (i := 47) rfl) rfl
theorem k418 : Cond.code yX6_layOver prog_8_method_7_code (8 : Nat) (Option.some FieldType.int) ∈ zt := zin_3 (List.mem_of_getElem? (i := 48) rfl) rfl
theorem k419 : Cond.methodLink "TapeRings$Ring" (60 : Nat) yX8_has ∈ zt := zin_3 (List.mem_of_getElem? (i := 49) rfl) rfl
theorem k420 : Cond.methodLink "TapeRingsLaw" (54 : Nat) yX11_set ∈ zt := zin_3 (List.mem_of_getElem? (i := 50) rfl) rfl
theorem k421 : Cond.instanceMethod yX11_set ∈ zt := zin_3 (List.mem_of_getElem? (i := 51) rfl) rfl
theorem k422 : Cond.selects "TapeRings" yX11_set yX11_set ∈ zt := zin_3 (List.mem_of_getElem? (i := 52) rfl) rfl
theorem k423 : Cond.code yX11_set prog_1_method_8_code (6 : Nat) (Option.some FieldType.int) ∈ zt := zin_3 (List.mem_of_getElem? (i := 53) rfl) rfl
theorem k424 : Cond.methodLink "TapeRingsLaw" (58 : Nat) yX11_head ∈ zt := zin_3 (List.mem_of_getElem? (i := 54) rfl) rfl
theorem k425 : Cond.instanceMethod yX11_head ∈ zt := zin_3 (List.mem_of_getElem? (i := 55) rfl) rfl
theorem k426 : Cond.selects "TapeRings" yX11_head yX11_head ∈ zt := zin_3 (List.mem_of_getElem? (i := 56) rfl) rfl
theorem k427 : Cond.code yX11_head prog_1_method_9_code (5 : Nat) (Option.some FieldType.int) ∈ zt := zin_3 (List.mem_of_getElem? (i := 57) rfl) rfl
theorem k428 : Cond.methodLink "TapeRings" (130 : Nat) yX6_putHead ∈ zt := zin_3 (List.mem_of_getElem? (i := 58) rfl) rfl
theorem k429 : Cond.instanceMethod yX6_putHead ∈ zt := zin_3 (List.mem_of_getElem? (i := 59) rfl) rfl
theorem k430 : Cond.selects "TapeRings$Ring" yX6_putHead yX6_putHead ∈ zt := zin_3 (List.mem_of_getElem? (i := 60) rfl) rfl
theorem k431 : Cond.code yX6_putHead prog_8_method_8_code (4 : Nat) (Option.some FieldType.int) ∈ zt := zin_3 (List.mem_of_getElem? (i := 61) rfl) rfl
theorem k432 : Cond.methodLink "TapeRings$Ring" (64 : Nat) yJ6_bitCount_0f7a4 ∈ zt := zin_3 (List.mem_of_getElem? (i := 62) rfl) rfl
theorem k433 : Cond.static yJ6_bitCount_0f7a4 ∈ zt := zin_3 (List.mem_of_getElem? (i := 63) rfl) rfl
theorem k434 : Cond.code yJ6_bitCount_0f7a4 prog_17_method_49_code (1 : Nat) (Option.some FieldType.int) ∈ zt := zin_3 (List.mem_of_getElem? (i := 64) rfl) rfl
theorem k435 : Cond.constant "java/lang/Integer" (265 : Nat) (1431655765 : Int32) ∈ zt := zin_3 (List.mem_of_getElem? (i := 65) rfl) rfl
theorem k436 : Cond.constant "java/lang/Integer" (266 : Nat) (858993459 : Int32) ∈ zt := zin_3 (List.mem_of_getElem? (i := 66) rfl) rfl
theorem k437 : Cond.constant "java/lang/Integer" (267 : Nat) (252645135 : Int32) ∈ zt := zin_3 (List.mem_of_getElem? (i := 67) rfl) rfl
theorem k438 : Cond.methodLink "TapeRingsLaw" (63 : Nat) yX11_motor ∈ zt := zin_3 (List.mem_of_getElem? (i := 68) rfl) rfl
theorem k439 : Cond.instanceMethod yX11_motor ∈ zt := zin_3 (List.mem_of_getElem? (i := 69) rfl) rfl
theorem k440 : Cond.selects "TapeRings" yX11_motor yX11_motor ∈ zt := zin_3 (List.mem_of_getElem? (i := 70) rfl) rfl
theorem k441 : Cond.code yX11_motor prog_1_method_10_code (4 : Nat) (Option.some FieldType.boolean) ∈ zt := zin_3 (List.mem_of_getElem? (i := 71) rfl) rfl
theorem k442 : Cond.methodLink "TapeRings" (134 : Nat) yX9_motorOf ∈ zt := zin_3 (List.mem_of_getElem? (i := 72) rfl) rfl
theorem k443 : Cond.instanceMethod yX9_motorOf ∈ zt := zin_3 (List.mem_of_getElem? (i := 73) rfl) rfl
theorem k444 : Cond.selects "TapeRings$Studio" yX9_motorOf yX9_motorOf ∈ zt := zin_3 (List.mem_of_getElem? (i := 74) rfl) rfl
theorem k445 : Cond.code yX9_motorOf prog_11_method_5_code (2 : Nat) (Option.some (FieldType.object "TapeRings$Motor")) ∈ zt := zin_3 (List.mem_of_getElem? (i := 75) rfl) rfl
theorem k446 : Cond.methodLink "TapeRings" (138 : Nat) yX2_tell ∈ zt := zin_3 (List.mem_of_getElem? (i := 76) rfl) rfl
theorem k447 : Cond.instanceMethod yX2_tell ∈ zt := zin_3 (List.mem_of_getElem? (i := 77) rfl) rfl
theorem k448 : Cond.selects "TapeRings$Motor" yX2_tell yX2_tell ∈ zt := zin_3 (List.mem_of_getElem? (i := 78) rfl) rfl
theorem k449 : Cond.code yX2_tell prog_4_method_3_code (5 : Nat) (Option.some FieldType.boolean) ∈ zt := zin_3 (List.mem_of_getElem? (i := 79) rfl) rfl
theorem k450 : Cond.methodLink "TapeRingsLaw" (68 : Nat) yX11_clear ∈ zt := zin_3 (List.mem_of_getElem? (i := 80) rfl) rfl
theorem k451 : Cond.instanceMethod yX11_clear ∈ zt := zin_3 (List.mem_of_getElem? (i := 81) rfl) rfl
theorem k452 : Cond.selects "TapeRings" yX11_clear yX11_clear ∈ zt := zin_3 (List.mem_of_getElem? (i := 82) rfl) rfl
theorem k453 : Cond.code yX11_clear prog_1_method_11_code (1 : Nat) (Option.some FieldType.int) ∈ zt := zin_3 (List.mem_of_getElem? (i := 83) rfl) rfl
theorem k454 : Cond.methodLink "TapeRings" (147 : Nat) yX9_empty ∈ zt := zin_3 (List.mem_of_getElem? (i := 84) rfl) rfl
theorem k455 : Cond.instanceMethod yX9_empty ∈ zt := zin_3 (List.mem_of_getElem? (i := 85) rfl) rfl
theorem k456 : Cond.selects "TapeRings$Studio" yX9_empty yX9_empty ∈ zt := zin_3 (List.mem_of_getElem? (i := 86) rfl) rfl
theorem k457 : Cond.code yX9_empty prog_11_method_4_code (3 : Nat) (Option.some FieldType.int) ∈ zt := zin_3 (List.mem_of_getElem? (i := 87) rfl) rfl
theorem k458 : Cond.methodLink "TapeRings$Studio" (33 : Nat) yX2_forget ∈ zt := zin_3 (List.mem_of_getElem? (i := 88) rfl) rfl
theorem k459 : Cond.instanceMethod yX2_forget ∈ zt := zin_3 (List.mem_of_getElem? (i := 89) rfl) rfl
theorem k460 : Cond.selects "TapeRings$Motor" yX2_forget yX2_forget ∈ zt := zin_3 (List.mem_of_getElem? (i := 90) rfl) rfl
theorem k461 : Cond.code yX2_forget prog_4_method_2_code (1 : Nat) (Option.none : Option FieldType) ∈ zt := zin_3 (List.mem_of_getElem? (i := 91) rfl) rfl
theorem k462 : Cond.methodLink "TapeRingsLaw" (72 : Nat) yX11_count ∈ zt := zin_3 (List.mem_of_getElem? (i := 92) rfl) rfl
theorem k463 : Cond.instanceMethod yX11_count ∈ zt := zin_3 (List.mem_of_getElem? (i := 93) rfl) rfl
theorem k464 : Cond.selects "TapeRings" yX11_count yX11_count ∈ zt := zin_3 (List.mem_of_getElem? (i := 94) rfl) rfl
theorem k465 : Cond.code yX11_count prog_1_method_12_code (2 : Nat) (Option.some FieldType.int) ∈ zt := zin_3 (List.mem_of_getElem? (i := 95) rfl) rfl
theorem k466 : Cond.methodLink "TapeRingsLaw" (82 : Nat) yX11_inch ∈ zt := zin_3 (List.mem_of_getElem? (i := 96) rfl) rfl
theorem k467 : Cond.instanceMethod yX11_inch ∈ zt := zin_3 (List.mem_of_getElem? (i := 97) rfl) rfl
theorem k468 : Cond.selects "TapeRings" yX11_inch yX11_inch ∈ zt := zin_3 (List.mem_of_getElem? (i := 98) rfl) rfl
theorem k469 : Cond.code yX11_inch prog_1_method_14_code (4 : Nat) (Option.some FieldType.int) ∈ zt := zin_3 (List.mem_of_getElem? (i := 99) rfl) rfl
theorem k470 : Cond.methodLink "TapeRingsLaw" (91 : Nat) yX11_heard ∈ zt := zin_3 (List.mem_of_getElem? (i := 100) rfl) rfl
theorem k471 : Cond.instanceMethod yX11_heard ∈ zt := zin_3 (List.mem_of_getElem? (i := 101) rfl) rfl
theorem k472 : Cond.selects "TapeRings" yX11_heard yX11_heard ∈ zt := zin_3 (List.mem_of_getElem? (i := 102) rfl) rfl
theorem k473 : Cond.code yX11_heard prog_1_method_16_code (5 : Nat) (Option.some FieldType.int) ∈ zt := zin_3 (List.mem_of_getElem? (i := 103) rfl) rfl
theorem k474 : Cond.methodLink "TapeRings" (174 : Nat) yX9_heardInAll ∈ zt := zin_3 (List.mem_of_getElem? (i := 104) rfl) rfl
theorem k475 : Cond.instanceMethod yX9_heardInAll ∈ zt := zin_3 (List.mem_of_getElem? (i := 105) rfl) rfl
theorem k476 : Cond.selects "TapeRings$Studio" yX9_heardInAll yX9_heardInAll ∈ zt := zin_3 (List.mem_of_getElem? (i := 106) rfl) rfl
theorem k477 : Cond.code yX9_heardInAll prog_11_method_9_code (5 : Nat) (Option.some FieldType.int) ∈ zt := zin_3 (List.mem_of_getElem? (i := 107) rfl) rfl
theorem k478 : Cond.methodLink "TapeRings$Studio" (73 : Nat) yX9_heardOf ∈ zt := zin_3 (List.mem_of_getElem? (i := 108) rfl) rfl
theorem k479 : Cond.instanceMethod yX9_heardOf ∈ zt := zin_3 (List.mem_of_getElem? (i := 109) rfl) rfl
theorem k480 : Cond.selects "TapeRings$Studio" yX9_heardOf yX9_heardOf ∈ zt := zin_3 (List.mem_of_getElem? (i := 110) rfl) rfl
theorem k481 : Cond.code yX9_heardOf prog_11_method_8_code (4 : Nat) (Option.some FieldType.int) ∈ zt := zin_3 (List.mem_of_getElem? (i := 111) rfl) rfl
theorem k482 : Cond.methodLink "TapeRings$Studio" (49 : Nat) yX9_motorOf ∈ zt := zin_3 (List.mem_of_getElem? (i := 112) rfl) rfl
theorem k483 : Cond.methodLink "TapeRings$Studio" (66 : Nat) yX2_wayBy ∈ zt := zin_3 (List.mem_of_getElem? (i := 113) rfl) rfl
theorem k484 : Cond.instanceMethod yX2_wayBy ∈ zt := zin_3 (List.mem_of_getElem? (i := 114) rfl) rfl
theorem k485 : Cond.selects "TapeRings$Motor" yX2_wayBy yX2_wayBy ∈ zt := zin_3 (List.mem_of_getElem? (i := 115) rfl) rfl
theorem k486 : Cond.code yX2_wayBy prog_4_method_7_code (6 : Nat) (Option.some FieldType.int) ∈ zt := zin_3 (List.mem_of_getElem? (i := 116) rfl) rfl
theorem k487 : Cond.methodLink "TapeRings$Motor" (22 : Nat) yX2_steady ∈ zt := zin_3 (List.mem_of_getElem? (i := 117) rfl) rfl
theorem k488 : Cond.instanceMethod yX2_steady ∈ zt := zin_3 (List.mem_of_getElem? (i := 118) rfl) rfl
theorem k489 : Cond.selects "TapeRings$Motor" yX2_steady yX2_steady ∈ zt := zin_3 (List.mem_of_getElem? (i := 119) rfl) rfl
theorem k490 : Cond.code yX2_steady prog_4_method_4_code (1 : Nat) (Option.some FieldType.int) ∈ zt := zin_3 (List.mem_of_getElem? (i := 120) rfl) rfl
theorem k491 : Cond.methodLink "TapeRings$Motor" (26 : Nat) yJ9_max_f86c9 ∈ zt := zin_3 (List.mem_of_getElem? (i := 121) rfl) rfl
theorem k492 : Cond.static yJ9_max_f86c9 ∈ zt := zin_3 (List.mem_of_getElem? (i := 122) rfl) rfl
theorem k493 : Cond.code yJ9_max_f86c9 prog_18_method_66_code (4 : Nat) (Option.some FieldType.long) ∈ zt := zin_3 (List.mem_of_getElem? (i := 123) rfl) rfl
theorem k494 : Cond.methodLink "TapeRings$Motor" (32 : Nat) yX2_wayTo ∈ zt := zin_3 (List.mem_of_getElem? (i := 124) rfl) rfl
theorem k495 : Cond.instanceMethod yX2_wayTo ∈ zt := zin_3 (List.mem_of_getElem? (i := 125) rfl) rfl
theorem k496 : Cond.selects "TapeRings$Motor" yX2_wayTo yX2_wayTo ∈ zt := zin_3 (List.mem_of_getElem? (i := 126) rfl) rfl
theorem k497 : Cond.code yX2_wayTo prog_4_method_6_code (9 : Nat) (Option.some FieldType.long) ∈ zt := zin_3 (List.mem_of_getElem? (i := 127) rfl) rfl
theorem k498 : Cond.methodLink "TapeRings$Motor" (40 : Nat) yX2_lastSpeed ∈ zt := zin_3 (List.mem_of_getElem? (i := 129) rfl) rfl
theorem k499 : Cond.instanceMethod yX2_lastSpeed ∈ zt := zin_3 (List.mem_of_getElem? (i := 130) rfl) rfl
theorem k500 : Cond.selects "TapeRings$Motor" yX2_lastSpeed yX2_lastSpeed ∈ zt := zin_3 (List.mem_of_getElem? (i := 131) rfl) rfl
theorem k501 : Cond.code yX2_lastSpeed prog_4_method_5_code (1 : Nat) (Option.some FieldType.int) ∈ zt := zin_3 (List.mem_of_getElem? (i := 132) rfl) rfl
theorem k502 : Cond.methodLink "TapeRings$Studio" (70 : Nat) yX6_heardBehind ∈ zt := zin_3 (List.mem_of_getElem? (i := 133) rfl) rfl
theorem k503 : Cond.instanceMethod yX6_heardBehind ∈ zt := zin_3 (List.mem_of_getElem? (i := 134) rfl) rfl
theorem k504 : Cond.selects "TapeRings$Ring" yX6_heardBehind yX6_heardBehind ∈ zt := zin_3 (List.mem_of_getElem? (i := 135) rfl) rfl
theorem k505 : Cond.code yX6_heardBehind prog_8_method_6_code (2 : Nat) (Option.some FieldType.int) ∈ zt := zin_3 (List.mem_of_getElem? (i := 136) rfl) rfl
theorem k506 : Cond.methodLink "TapeRings" (178 : Nat) yX9_heardOf ∈ zt := zin_3 (List.mem_of_getElem? (i := 137) rfl) rfl
theorem k507 : Cond.methodLink "TapeRingsLaw" (96 : Nat) yX11_all ∈ zt := zin_3 (List.mem_of_getElem? (i := 138) rfl) rfl
theorem k508 : Cond.instanceMethod yX11_all ∈ zt := zin_3 (List.mem_of_getElem? (i := 139) rfl) rfl
theorem k509 : Cond.selects "TapeRings" yX11_all yX11_all ∈ zt := zin_3 (List.mem_of_getElem? (i := 140) rfl) rfl
theorem k510 : Cond.code yX11_all prog_1_method_17_code (1 : Nat) (Option.some FieldType.long) ∈ zt := zin_3 (List.mem_of_getElem? (i := 141) rfl) rfl
theorem k511 : Cond.methodLink "TapeRings" (182 : Nat) yX1_look ∈ zt := zin_3 (List.mem_of_getElem? (i := 142) rfl) rfl
theorem k512 : Cond.instanceMethod yX1_look ∈ zt := zin_3 (List.mem_of_getElem? (i := 143) rfl) rfl
theorem k513 : Cond.selects "TapeRings$Meeting" yX1_look yX1_look ∈ zt := zin_3 (List.mem_of_getElem? (i := 144) rfl) rfl
theorem k514 : Cond.code yX1_look prog_3_method_2_code (4 : Nat) (Option.none : Option FieldType) ∈ zt := zin_3 (List.mem_of_getElem? (i := 145) rfl) rfl
theorem k515 : Cond.methodLink "TapeRings$Meeting" (26 : Nat) yX9_steady ∈ zt := zin_3 (List.mem_of_getElem? (i := 146) rfl) rfl
theorem k516 : Cond.instanceMethod yX9_steady ∈ zt := zin_3 (List.mem_of_getElem? (i := 147) rfl) rfl
theorem k517 : Cond.selects "TapeRings$Studio" yX9_steady yX9_steady ∈ zt := zin_3 (List.mem_of_getElem? (i := 148) rfl) rfl
theorem k518 : Cond.code yX9_steady prog_11_method_6_code (1 : Nat) (Option.some FieldType.int) ∈ zt := zin_3 (List.mem_of_getElem? (i := 149) rfl) rfl
theorem k519 : Cond.methodLink "TapeRings$Studio" (36 : Nat) yX2_steady ∈ zt := zin_3 (List.mem_of_getElem? (i := 150) rfl) rfl
theorem k520 : Cond.methodLink "TapeRings$Studio" (40 : Nat) yJ9_max_7cf53 ∈ zt := zin_3 (List.mem_of_getElem? (i := 151) rfl) rfl
theorem k521 : Cond.methodLink "TapeRings$Meeting" (31 : Nat) yX9_find ∈ zt := zin_3 (List.mem_of_getElem? (i := 152) rfl) rfl
theorem k522 : Cond.methodLink "TapeRings$Meeting" (35 : Nat) yX9_roundOf ∈ zt := zin_3 (List.mem_of_getElem? (i := 153) rfl) rfl
theorem k523 : Cond.instanceMethod yX9_roundOf ∈ zt := zin_3 (List.mem_of_getElem? (i := 154) rfl) rfl
theorem k524 : Cond.selects "TapeRings$Studio" yX9_roundOf yX9_roundOf ∈ zt := zin_3 (List.mem_of_getElem? (i := 155) rfl) rfl
theorem k525 : Cond.code yX9_roundOf prog_11_method_7_code (2 : Nat) (Option.some FieldType.int) ∈ zt := zin_3 (List.mem_of_getElem? (i := 156) rfl) rfl
theorem k526 : Cond.methodLink "TapeRings$Studio" (62 : Nat) yX2_round ∈ zt := zin_3 (List.mem_of_getElem? (i := 157) rfl) rfl
theorem k527 : Cond.instanceMethod yX2_round ∈ zt := zin_3 (List.mem_of_getElem? (i := 158) rfl) rfl
theorem k528 : Cond.selects "TapeRings$Motor" yX2_round yX2_round ∈ zt := zin_3 (List.mem_of_getElem? (i := 159) rfl) rfl
theorem k529 : Cond.code yX2_round prog_4_method_8_code (2 : Nat) (Option.some FieldType.int) ∈ zt := zin_3 (List.mem_of_getElem? (i := 160) rfl) rfl
theorem k530 : Cond.static yX11_withoutShared ∈ zt := zin_3 (List.mem_of_getElem? (i := 162) rfl) rfl
theorem k531 : Cond.code yX11_withoutShared prog_1_method_53_code (4 : Nat) (Option.some FieldType.int) ∈ zt := zin_3 (List.mem_of_getElem? (i := 163) rfl) rfl
theorem k532 : Cond.methodLink "TapeRings" (299 : Nat) yX11_greatestDivisor ∈ zt := zin_3 (List.mem_of_getElem? (i := 164) rfl) rfl
theorem k533 : Cond.static yX11_greatestDivisor ∈ zt := zin_3 (List.mem_of_getElem? (i := 165) rfl) rfl
theorem k534 : Cond.code yX11_greatestDivisor prog_1_method_52_code (4 : Nat) (Option.some FieldType.int) ∈ zt := zin_3 (List.mem_of_getElem? (i := 166) rfl) rfl
theorem k535 : Cond.methodLink "TapeRings$Meeting" (39 : Nat) yX1_turnsOf ∈ zt := zin_3 (List.mem_of_getElem? (i := 167) rfl) rfl
theorem k536 : Cond.instanceMethod yX1_turnsOf ∈ zt := zin_3 (List.mem_of_getElem? (i := 169) rfl) rfl
theorem k537 : Cond.code yX1_turnsOf prog_3_method_3_code (6 : Nat) (Option.some FieldType.int) ∈ zt := zin_3 (List.mem_of_getElem? (i := 170) rfl) rfl
theorem k538 : Cond.methodLink "TapeRings$Meeting" (43 : Nat) yX9_grants ∈ zt := zin_3 (List.mem_of_getElem? (i := 171) rfl) rfl
theorem k539 : Cond.instanceMethod yX9_grants ∈ zt := zin_3 (List.mem_of_getElem? (i := 172) rfl) rfl
theorem k540 : Cond.selects "TapeRings$Studio" yX9_grants yX9_grants ∈ zt := zin_3 (List.mem_of_getElem? (i := 173) rfl) rfl
theorem k541 : Cond.code yX9_grants prog_11_method_10_code (4 : Nat) (Option.some FieldType.boolean) ∈ zt := zin_3 (List.mem_of_getElem? (i := 174) rfl) rfl
theorem k542 : Cond.methodLink "TapeRings" (186 : Nat) yX1_allTicks ∈ zt := zin_3 (List.mem_of_getElem? (i := 175) rfl) rfl
theorem k543 : Cond.instanceMethod yX1_allTicks ∈ zt := zin_3 (List.mem_of_getElem? (i := 176) rfl) rfl
theorem k544 : Cond.selects "TapeRings$Meeting" yX1_allTicks yX1_allTicks ∈ zt := zin_3 (List.mem_of_getElem? (i := 177) rfl) rfl
theorem k545 : Cond.code yX1_allTicks prog_3_method_4_code (4 : Nat) (Option.some FieldType.long) ∈ zt := zin_3 (List.mem_of_getElem? (i := 178) rfl) rfl
theorem k546 : Cond.static yX11_leastMultiple ∈ zt := zin_3 (List.mem_of_getElem? (i := 180) rfl) rfl
theorem k547 : Cond.code yX11_leastMultiple prog_1_method_54_code (3 : Nat) (Option.some FieldType.long) ∈ zt := zin_3 (List.mem_of_getElem? (i := 181) rfl) rfl
theorem k548 : Cond.methodLink "TapeRings" (303 : Nat) yX11_withoutShared ∈ zt := zin_3 (List.mem_of_getElem? (i := 182) rfl) rfl
theorem k549 : Cond.methodLink "TapeRingsLaw" (101 : Nat) yX11_wish ∈ zt := zin_3 (List.mem_of_getElem? (i := 183) rfl) rfl
theorem k550 : Cond.instanceMethod yX11_wish ∈ zt := zin_3 (List.mem_of_getElem? (i := 184) rfl) rfl
theorem k551 : Cond.selects "TapeRings" yX11_wish yX11_wish ∈ zt := zin_3 (List.mem_of_getElem? (i := 185) rfl) rfl
theorem k552 : Cond.code yX11_wish prog_1_method_18_code (4 : Nat) (Option.some FieldType.boolean) ∈ zt := zin_3 (List.mem_of_getElem? (i := 186) rfl) rfl
theorem k553 : Cond.methodLink "TapeRings" (190 : Nat) yX11_isSounds ∈ zt := zin_3 (List.mem_of_getElem? (i := 187) rfl) rfl
theorem k554 : Cond.static yX11_isSounds ∈ zt := zin_3 (List.mem_of_getElem? (i := 188) rfl) rfl
theorem k555 : Cond.code yX11_isSounds prog_1_method_50_code (1 : Nat) (Option.some FieldType.boolean) ∈ zt := zin_3 (List.mem_of_getElem? (i := 189) rfl) rfl
theorem k556 : Cond.methodLink "TapeRingsLaw" (106 : Nat) yX11_meets ∈ zt := zin_3 (List.mem_of_getElem? (i := 190) rfl) rfl
theorem k557 : Cond.instanceMethod yX11_meets ∈ zt := zin_3 (List.mem_of_getElem? (i := 191) rfl) rfl
theorem k558 : Cond.selects "TapeRings" yX11_meets yX11_meets ∈ zt := zin_3 (List.mem_of_getElem? (i := 192) rfl) rfl
theorem k559 : Cond.code yX11_meets prog_1_method_19_code (3 : Nat) (Option.some FieldType.long) ∈ zt := zin_3 (List.mem_of_getElem? (i := 193) rfl) rfl
theorem k560 : Cond.constantLong "TapeRings" (193 : Nat) (1152921504606846976 : Int64) ∈ zt := zin_3 (List.mem_of_getElem? (i := 194) rfl) rfl
theorem k561 : Cond.constantLong "TapeRings" (195 : Nat) (-1 : Int64) ∈ zt := zin_3 (List.mem_of_getElem? (i := 195) rfl) rfl
theorem k562 : Cond.methodLink "TapeRings" (197 : Nat) yX1_first ∈ zt := zin_3 (List.mem_of_getElem? (i := 196) rfl) rfl
theorem k563 : Cond.instanceMethod yX1_first ∈ zt := zin_3 (List.mem_of_getElem? (i := 197) rfl) rfl
theorem k564 : Cond.selects "TapeRings$Meeting" yX1_first yX1_first ∈ zt := zin_3 (List.mem_of_getElem? (i := 198) rfl) rfl
theorem k565 : Cond.code yX1_first prog_3_method_8_code (6 : Nat) (Option.some FieldType.long) ∈ zt := zin_3 (List.mem_of_getElem? (i := 199) rfl) rfl
theorem k566 : Cond.methodLink "TapeRings$Meeting" (72 : Nat) yX9_meetsAt ∈ zt := zin_3 (List.mem_of_getElem? (i := 200) rfl) rfl
theorem k567 : Cond.instanceMethod yX9_meetsAt ∈ zt := zin_3 (List.mem_of_getElem? (i := 201) rfl) rfl
theorem k568 : Cond.selects "TapeRings$Studio" yX9_meetsAt yX9_meetsAt ∈ zt := zin_3 (List.mem_of_getElem? (i := 202) rfl) rfl
theorem k569 : Cond.code yX9_meetsAt prog_11_method_11_code (4 : Nat) (Option.some FieldType.boolean) ∈ zt := zin_3 (List.mem_of_getElem? (i := 203) rfl) rfl
theorem k570 : Cond.methodLink "TapeRings$Studio" (80 : Nat) yX9_grants ∈ zt := zin_3 (List.mem_of_getElem? (i := 204) rfl) rfl
theorem k571 : Cond.methodLink "TapeRings$Meeting" (76 : Nat) yX1_howOften ∈ zt := zin_3 (List.mem_of_getElem? (i := 205) rfl) rfl
theorem k572 : Cond.instanceMethod yX1_howOften ∈ zt := zin_3 (List.mem_of_getElem? (i := 206) rfl) rfl
theorem k573 : Cond.selects "TapeRings$Meeting" yX1_howOften yX1_howOften ∈ zt := zin_3 (List.mem_of_getElem? (i := 207) rfl) rfl
theorem k574 : Cond.code yX1_howOften prog_3_method_5_code (8 : Nat) (Option.some FieldType.long) ∈ zt := zin_3 (List.mem_of_getElem? (i := 208) rfl) rfl
theorem k575 : Cond.methodLink "TapeRings$Meeting" (51 : Nat) yX1_sharedTicks ∈ zt := zin_3 (List.mem_of_getElem? (i := 209) rfl) rfl
theorem k576 : Cond.instanceMethod yX1_sharedTicks ∈ zt := zin_3 (List.mem_of_getElem? (i := 211) rfl) rfl
theorem k577 : Cond.code yX1_sharedTicks prog_3_method_6_code (5 : Nat) (Option.some FieldType.int) ∈ zt := zin_3 (List.mem_of_getElem? (i := 212) rfl) rfl
theorem k578 : Cond.methodLink "TapeRings$Meeting" (58 : Nat) yX1_turnsAlike ∈ zt := zin_3 (List.mem_of_getElem? (i := 214) rfl) rfl
theorem k579 : Cond.instanceMethod yX1_turnsAlike ∈ zt := zin_3 (List.mem_of_getElem? (i := 216) rfl) rfl
theorem k580 : Cond.code yX1_turnsAlike prog_3_method_7_code (6 : Nat) (Option.some FieldType.int) ∈ zt := zin_3 (List.mem_of_getElem? (i := 217) rfl) rfl
theorem k581 : Cond.methodLink "TapeRings$Meeting" (66 : Nat) yJ9_max_7cf53 ∈ zt := zin_3 (List.mem_of_getElem? (i := 219) rfl) rfl
theorem k582 : Cond.constantLong "TapeRings$Meeting" (80 : Nat) (-1 : Int64) ∈ zt := zin_3 (List.mem_of_getElem? (i := 220) rfl) rfl
theorem k583 : Cond.methodLink "TapeRings$Meeting" (82 : Nat) yJ9_max_f86c9 ∈ zt := zin_3 (List.mem_of_getElem? (i := 221) rfl) rfl
theorem k584 : Cond.methodLink "TapeRings$Meeting" (85 : Nat) yX1_firstSteady ∈ zt := zin_3 (List.mem_of_getElem? (i := 222) rfl) rfl
theorem k585 : Cond.instanceMethod yX1_firstSteady ∈ zt := zin_3 (List.mem_of_getElem? (i := 224) rfl) rfl
theorem k586 : Cond.code yX1_firstSteady prog_3_method_9_code (12 : Nat) (Option.some FieldType.long) ∈ zt := zin_3 (List.mem_of_getElem? (i := 225) rfl) rfl
theorem k587 : Cond.methodLink "TapeRings$Meeting" (89 : Nat) yX1_allTicks ∈ zt := zin_3 (List.mem_of_getElem? (i := 226) rfl) rfl
theorem k588 : Cond.methodLink "TapeRings$Meeting" (92 : Nat) yX1_ticksToTurn ∈ zt := zin_3 (List.mem_of_getElem? (i := 227) rfl) rfl
theorem k589 : Cond.instanceMethod yX1_ticksToTurn ∈ zt := zin_3 (List.mem_of_getElem? (i := 229) rfl) rfl
theorem k590 : Cond.code yX1_ticksToTurn prog_3_method_10_code (5 : Nat) (Option.some FieldType.int) ∈ zt := zin_3 (List.mem_of_getElem? (i := 230) rfl) rfl
theorem k591 : Cond.methodLink "TapeRingsLaw" (111 : Nat) yX11_often ∈ zt := zin_3 (List.mem_of_getElem? (i := 231) rfl) rfl
theorem k592 : Cond.instanceMethod yX11_often ∈ zt := zin_3 (List.mem_of_getElem? (i := 232) rfl) rfl
theorem k593 : Cond.selects "TapeRings" yX11_often yX11_often ∈ zt := zin_3 (List.mem_of_getElem? (i := 233) rfl) rfl
theorem k594 : Cond.code yX11_often prog_1_method_20_code (1 : Nat) (Option.some FieldType.long) ∈ zt := zin_3 (List.mem_of_getElem? (i := 234) rfl) rfl
theorem k595 : Cond.methodLink "TapeRings" (201 : Nat) yX1_howOften ∈ zt := zin_3 (List.mem_of_getElem? (i := 235) rfl) rfl
theorem k596 : Cond.methodLink "TapeRingsLaw" (115 : Nat) yX11_mark ∈ zt := zin_3 (List.mem_of_getElem? (i := 236) rfl) rfl
theorem k597 : Cond.instanceMethod yX11_mark ∈ zt := zin_3 (List.mem_of_getElem? (i := 237) rfl) rfl
theorem k598 : Cond.selects "TapeRings" yX11_mark yX11_mark ∈ zt := zin_3 (List.mem_of_getElem? (i := 238) rfl) rfl
theorem k599 : Cond.code yX11_mark prog_1_method_21_code (3 : Nat) (Option.some FieldType.int) ∈ zt := zin_3 (List.mem_of_getElem? (i := 239) rfl) rfl
theorem k600 : Cond.constant "TapeRings" (204 : Nat) (100000 : Int32) ∈ zt := zin_4 (List.mem_of_getElem? (i := 0) rfl) rfl
theorem k601 : Cond.methodLink "TapeRings" (205 : Nat) yX11_isSound ∈ zt := zin_4 (List.mem_of_getElem? (i := 1) rfl) rfl
theorem k602 : Cond.static yX11_isSound ∈ zt := zin_4 (List.mem_of_getElem? (i := 2) rfl) rfl
theorem k603 : Cond.code yX11_isSound prog_1_method_49_code (1 : Nat) (Option.some FieldType.boolean) ∈ zt := zin_4 (List.mem_of_getElem? (i := 3) rfl) rfl
theorem k604 : Cond.methodLink "TapeRings" (208 : Nat) yX5_add ∈ zt := zin_4 (List.mem_of_getElem? (i := 4) rfl) rfl
theorem k605 : Cond.instanceMethod yX5_add ∈ zt := zin_4 (List.mem_of_getElem? (i := 5) rfl) rfl
theorem k606 : Cond.selects "TapeRings$Planner" yX5_add yX5_add ∈ zt := zin_4 (List.mem_of_getElem? (i := 6) rfl) rfl
theorem k607 : Cond.code yX5_add prog_7_method_2_code (3 : Nat) (Option.some FieldType.int) ∈ zt := zin_4 (List.mem_of_getElem? (i := 7) rfl) rfl
theorem k608 : Cond.methodLink "TapeRingsLaw" (119 : Nat) yX11_kept ∈ zt := zin_4 (List.mem_of_getElem? (i := 8) rfl) rfl
theorem k609 : Cond.instanceMethod yX11_kept ∈ zt := zin_4 (List.mem_of_getElem? (i := 9) rfl) rfl
theorem k610 : Cond.selects "TapeRings" yX11_kept yX11_kept ∈ zt := zin_4 (List.mem_of_getElem? (i := 10) rfl) rfl
theorem k611 : Cond.code yX11_kept prog_1_method_22_code (1 : Nat) (Option.some FieldType.int) ∈ zt := zin_4 (List.mem_of_getElem? (i := 11) rfl) rfl
theorem k612 : Cond.methodLink "TapeRings" (211 : Nat) yX5_marksTrue ∈ zt := zin_4 (List.mem_of_getElem? (i := 12) rfl) rfl
theorem k613 : Cond.instanceMethod yX5_marksTrue ∈ zt := zin_4 (List.mem_of_getElem? (i := 13) rfl) rfl
theorem k614 : Cond.selects "TapeRings$Planner" yX5_marksTrue yX5_marksTrue ∈ zt := zin_4 (List.mem_of_getElem? (i := 14) rfl) rfl
theorem k615 : Cond.code yX5_marksTrue prog_7_method_3_code (4 : Nat) (Option.some FieldType.int) ∈ zt := zin_4 (List.mem_of_getElem? (i := 15) rfl) rfl
theorem k616 : Cond.methodLink "TapeRings$Planner" (42 : Nat) yX9_heardInAll ∈ zt := zin_4 (List.mem_of_getElem? (i := 16) rfl) rfl
theorem k617 : Cond.methodLink "TapeRingsLaw" (123 : Nat) yX11_plan ∈ zt := zin_4 (List.mem_of_getElem? (i := 17) rfl) rfl
theorem k618 : Cond.instanceMethod yX11_plan ∈ zt := zin_4 (List.mem_of_getElem? (i := 18) rfl) rfl
theorem k619 : Cond.selects "TapeRings" yX11_plan yX11_plan ∈ zt := zin_4 (List.mem_of_getElem? (i := 19) rfl) rfl
theorem k620 : Cond.code yX11_plan prog_1_method_23_code (2 : Nat) (Option.some FieldType.int) ∈ zt := zin_4 (List.mem_of_getElem? (i := 20) rfl) rfl
theorem k621 : Cond.methodLink "TapeRings" (215 : Nat) yX5_find ∈ zt := zin_4 (List.mem_of_getElem? (i := 21) rfl) rfl
theorem k622 : Cond.instanceMethod yX5_find ∈ zt := zin_4 (List.mem_of_getElem? (i := 22) rfl) rfl
theorem k623 : Cond.selects "TapeRings$Planner" yX5_find yX5_find ∈ zt := zin_4 (List.mem_of_getElem? (i := 23) rfl) rfl
theorem k624 : Cond.code yX5_find prog_7_method_4_code (6 : Nat) (Option.some FieldType.int) ∈ zt := zin_4 (List.mem_of_getElem? (i := 24) rfl) rfl
theorem k625 : Cond.constant "TapeRings$Planner" (49 : Nat) (1000000 : Int32) ∈ zt := zin_4 (List.mem_of_getElem? (i := 25) rfl) rfl
theorem k626 : Cond.methodLink "TapeRings$Planner" (50 : Nat) yJ7_fill_53178 ∈ zt := zin_4 (List.mem_of_getElem? (i := 26) rfl) rfl
theorem k627 : Cond.methodLink "TapeRings$Planner" (56 : Nat) yX9_find ∈ zt := zin_4 (List.mem_of_getElem? (i := 27) rfl) rfl
theorem k628 : Cond.methodLink "TapeRings$Planner" (65 : Nat) yX9_motorOf ∈ zt := zin_4 (List.mem_of_getElem? (i := 28) rfl) rfl
theorem k629 : Cond.methodLink "TapeRings$Planner" (69 : Nat) yX5_listTrue ∈ zt := zin_4 (List.mem_of_getElem? (i := 29) rfl) rfl
theorem k630 : Cond.instanceMethod yX5_listTrue ∈ zt := zin_4 (List.mem_of_getElem? (i := 31) rfl) rfl
theorem k631 : Cond.code yX5_listTrue prog_7_method_5_code (7 : Nat) (Option.none : Option FieldType) ∈ zt := zin_4 (List.mem_of_getElem? (i := 32) rfl) rfl
theorem k632 : Cond.methodLink "TapeRings$Planner" (94 : Nat) yX6_fillUnder ∈ zt := zin_4 (List.mem_of_getElem? (i := 33) rfl) rfl
theorem k633 : Cond.methodLink "TapeRings$Planner" (97 : Nat) yX2_wayBy ∈ zt := zin_4 (List.mem_of_getElem? (i := 34) rfl) rfl
theorem k634 : Cond.methodLink "TapeRings$Planner" (103 : Nat) yX5_trueFrom ∈ zt := zin_4 (List.mem_of_getElem? (i := 35) rfl) rfl
theorem k635 : Cond.instanceMethod yX5_trueFrom ∈ zt := zin_4 (List.mem_of_getElem? (i := 37) rfl) rfl
theorem k636 : Cond.code yX5_trueFrom prog_7_method_6_code (5 : Nat) (Option.some FieldType.int) ∈ zt := zin_4 (List.mem_of_getElem? (i := 38) rfl) rfl
theorem k637 : Cond.methodLink "TapeRings$Planner" (73 : Nat) yX5_listCheapest ∈ zt := zin_4 (List.mem_of_getElem? (i := 40) rfl) rfl
theorem k638 : Cond.instanceMethod yX5_listCheapest ∈ zt := zin_4 (List.mem_of_getElem? (i := 42) rfl) rfl
theorem k639 : Cond.code yX5_listCheapest prog_7_method_7_code (6 : Nat) (Option.none : Option FieldType) ∈ zt := zin_4 (List.mem_of_getElem? (i := 43) rfl) rfl
theorem k640 : Cond.methodLink "TapeRings$Planner" (110 : Nat) yX5_cost ∈ zt := zin_4 (List.mem_of_getElem? (i := 44) rfl) rfl
theorem k641 : Cond.static yX5_cost ∈ zt := zin_4 (List.mem_of_getElem? (i := 45) rfl) rfl
theorem k642 : Cond.code yX5_cost prog_7_method_8_code (3 : Nat) (Option.some FieldType.int) ∈ zt := zin_4 (List.mem_of_getElem? (i := 46) rfl) rfl
theorem k643 : Cond.methodLink "TapeRings$Planner" (121 : Nat) yJ9_abs_0f7a4 ∈ zt := zin_4 (List.mem_of_getElem? (i := 47) rfl) rfl
theorem k644 : Cond.static yJ9_abs_0f7a4 ∈ zt := zin_4 (List.mem_of_getElem? (i := 48) rfl) rfl
theorem k645 : Cond.code yJ9_abs_0f7a4 prog_18_method_59_code (1 : Nat) (Option.some FieldType.int) ∈ zt := zin_4 (List.mem_of_getElem? (i := 49) rfl) rfl
theorem k646 : Cond.methodLink "TapeRings$Planner" (113 : Nat) yJ9_min_7cf53 ∈ zt := zin_4 (List.mem_of_getElem? (i := 50) rfl) rfl
theorem k647 : Cond.methodLink "TapeRings$Planner" (77 : Nat) yX5_addCosts ∈ zt := zin_4 (List.mem_of_getElem? (i := 51) rfl) rfl
theorem k648 : Cond.instanceMethod yX5_addCosts ∈ zt := zin_4 (List.mem_of_getElem? (i := 53) rfl) rfl
theorem k649 : Cond.code yX5_addCosts prog_7_method_9_code (7 : Nat) (Option.none : Option FieldType) ∈ zt := zin_4 (List.mem_of_getElem? (i := 54) rfl) rfl
theorem k650 : Cond.methodLink "TapeRings$Planner" (81 : Nat) yX5_choose ∈ zt := zin_4 (List.mem_of_getElem? (i := 55) rfl) rfl
theorem k651 : Cond.instanceMethod yX5_choose ∈ zt := zin_4 (List.mem_of_getElem? (i := 57) rfl) rfl
theorem k652 : Cond.code yX5_choose prog_7_method_10_code (8 : Nat) (Option.some FieldType.int) ∈ zt := zin_4 (List.mem_of_getElem? (i := 58) rfl) rfl
theorem k653 : Cond.methodLink "TapeRings" (220 : Nat) yX11_tell ∈ zt := zin_4 (List.mem_of_getElem? (i := 59) rfl) rfl
theorem k654 : Cond.instanceMethod yX11_tell ∈ zt := zin_4 (List.mem_of_getElem? (i := 61) rfl) rfl
theorem k655 : Cond.code yX11_tell prog_1_method_46_code (3 : Nat) (Option.none : Option FieldType) ∈ zt := zin_4 (List.mem_of_getElem? (i := 62) rfl) rfl
theorem k656 : Cond.methodLink "TapeRings" (288 : Nat) yJ9_min_7cf53 ∈ zt := zin_4 (List.mem_of_getElem? (i := 63) rfl) rfl
theorem k657 : Cond.methodLink "TapeRings" (293 : Nat) (⟨"java/lang/System", "arraycopy", "(Ljava/lang/Object;ILjava/lang/Object;II)V"⟩ : MethodName) ∈ zt := zin_4 (List.mem_of_getElem? (i := 64) rfl) rfl
theorem k658 : Cond.methodLink "TapeRingsLaw" (127 : Nat) yX11_make ∈ zt := zin_4 (List.mem_of_getElem? (i := 65) rfl) rfl
theorem k659 : Cond.instanceMethod yX11_make ∈ zt := zin_4 (List.mem_of_getElem? (i := 66) rfl) rfl
theorem k660 : Cond.selects "TapeRings" yX11_make yX11_make ∈ zt := zin_4 (List.mem_of_getElem? (i := 67) rfl) rfl
theorem k661 : Cond.code yX11_make prog_1_method_24_code (2 : Nat) (Option.some FieldType.int) ∈ zt := zin_4 (List.mem_of_getElem? (i := 68) rfl) rfl
theorem k662 : Cond.methodLink "TapeRings" (223 : Nat) yX5_carryOut ∈ zt := zin_4 (List.mem_of_getElem? (i := 69) rfl) rfl
theorem k663 : Cond.instanceMethod yX5_carryOut ∈ zt := zin_4 (List.mem_of_getElem? (i := 70) rfl) rfl
theorem k664 : Cond.selects "TapeRings$Planner" yX5_carryOut yX5_carryOut ∈ zt := zin_4 (List.mem_of_getElem? (i := 71) rfl) rfl
theorem k665 : Cond.code yX5_carryOut prog_7_method_11_code (4 : Nat) (Option.none : Option FieldType) ∈ zt := zin_4 (List.mem_of_getElem? (i := 72) rfl) rfl
theorem k666 : Cond.methodLink "TapeRings$Planner" (125 : Nat) yX6_cutBy ∈ zt := zin_4 (List.mem_of_getElem? (i := 73) rfl) rfl
theorem k667 : Cond.instanceMethod yX6_cutBy ∈ zt := zin_4 (List.mem_of_getElem? (i := 74) rfl) rfl
theorem k668 : Cond.selects "TapeRings$Ring" yX6_cutBy yX6_cutBy ∈ zt := zin_4 (List.mem_of_getElem? (i := 75) rfl) rfl
theorem k669 : Cond.code yX6_cutBy prog_8_method_9_code (2 : Nat) (Option.none : Option FieldType) ∈ zt := zin_4 (List.mem_of_getElem? (i := 76) rfl) rfl
theorem k670 : Cond.methodLink "TapeRingsLaw" (131 : Nat) yX11_cut ∈ zt := zin_4 (List.mem_of_getElem? (i := 77) rfl) rfl
theorem k671 : Cond.instanceMethod yX11_cut ∈ zt := zin_4 (List.mem_of_getElem? (i := 78) rfl) rfl
theorem k672 : Cond.selects "TapeRings" yX11_cut yX11_cut ∈ zt := zin_4 (List.mem_of_getElem? (i := 79) rfl) rfl
theorem k673 : Cond.code yX11_cut prog_1_method_25_code (4 : Nat) (Option.some FieldType.int) ∈ zt := zin_4 (List.mem_of_getElem? (i := 80) rfl) rfl
theorem k674 : Cond.methodLink "TapeRings" (226 : Nat) yX6_cutBy ∈ zt := zin_4 (List.mem_of_getElem? (i := 81) rfl) rfl
theorem k675 : Cond.methodLink "TapeRingsLaw" (135 : Nat) yX11_weight ∈ zt := zin_4 (List.mem_of_getElem? (i := 82) rfl) rfl
theorem k676 : Cond.instanceMethod yX11_weight ∈ zt := zin_4 (List.mem_of_getElem? (i := 83) rfl) rfl
theorem k677 : Cond.selects "TapeRings" yX11_weight yX11_weight ∈ zt := zin_4 (List.mem_of_getElem? (i := 84) rfl) rfl
theorem k678 : Cond.code yX11_weight prog_1_method_26_code (3 : Nat) (Option.some FieldType.int) ∈ zt := zin_4 (List.mem_of_getElem? (i := 85) rfl) rfl
theorem k679 : Cond.methodLink "TapeRings" (230 : Nat) yX0_weigh ∈ zt := zin_4 (List.mem_of_getElem? (i := 86) rfl) rfl
theorem k680 : Cond.instanceMethod yX0_weigh ∈ zt := zin_4 (List.mem_of_getElem? (i := 87) rfl) rfl
theorem k681 : Cond.selects "TapeRings$Echo" yX0_weigh yX0_weigh ∈ zt := zin_4 (List.mem_of_getElem? (i := 88) rfl) rfl
theorem k682 : Cond.code yX0_weigh prog_2_method_2_code (4 : Nat) (Option.some FieldType.int) ∈ zt := zin_4 (List.mem_of_getElem? (i := 89) rfl) rfl
theorem k683 : Cond.methodLink "TapeRingsLaw" (139 : Nat) yX11_heads ∈ zt := zin_4 (List.mem_of_getElem? (i := 90) rfl) rfl
theorem k684 : Cond.instanceMethod yX11_heads ∈ zt := zin_4 (List.mem_of_getElem? (i := 91) rfl) rfl
theorem k685 : Cond.selects "TapeRings" yX11_heads yX11_heads ∈ zt := zin_4 (List.mem_of_getElem? (i := 92) rfl) rfl
theorem k686 : Cond.code yX11_heads prog_1_method_27_code (5 : Nat) (Option.some FieldType.boolean) ∈ zt := zin_4 (List.mem_of_getElem? (i := 93) rfl) rfl
theorem k687 : Cond.methodLink "TapeRings" (233 : Nat) yX0_place ∈ zt := zin_4 (List.mem_of_getElem? (i := 94) rfl) rfl
theorem k688 : Cond.instanceMethod yX0_place ∈ zt := zin_4 (List.mem_of_getElem? (i := 95) rfl) rfl
theorem k689 : Cond.selects "TapeRings$Echo" yX0_place yX0_place ∈ zt := zin_4 (List.mem_of_getElem? (i := 96) rfl) rfl
theorem k690 : Cond.code yX0_place prog_2_method_3_code (5 : Nat) (Option.none : Option FieldType) ∈ zt := zin_4 (List.mem_of_getElem? (i := 97) rfl) rfl
theorem k691 : Cond.methodLink "TapeRingsLaw" (144 : Nat) yX11_stop ∈ zt := zin_4 (List.mem_of_getElem? (i := 98) rfl) rfl
theorem k692 : Cond.instanceMethod yX11_stop ∈ zt := zin_4 (List.mem_of_getElem? (i := 99) rfl) rfl
theorem k693 : Cond.selects "TapeRings" yX11_stop yX11_stop ∈ zt := zin_4 (List.mem_of_getElem? (i := 100) rfl) rfl
theorem k694 : Cond.code yX11_stop prog_1_method_28_code (3 : Nat) (Option.some FieldType.int) ∈ zt := zin_4 (List.mem_of_getElem? (i := 101) rfl) rfl
theorem k695 : Cond.methodLink "TapeRingsLaw" (148 : Nat) yX11_out ∈ zt := zin_4 (List.mem_of_getElem? (i := 102) rfl) rfl
theorem k696 : Cond.instanceMethod yX11_out ∈ zt := zin_4 (List.mem_of_getElem? (i := 103) rfl) rfl
theorem k697 : Cond.selects "TapeRings" yX11_out yX11_out ∈ zt := zin_4 (List.mem_of_getElem? (i := 104) rfl) rfl
theorem k698 : Cond.code yX11_out prog_1_method_29_code (2 : Nat) (Option.some FieldType.int) ∈ zt := zin_4 (List.mem_of_getElem? (i := 105) rfl) rfl
theorem k699 : Cond.methodLink "TapeRings" (240 : Nat) yX0_run ∈ zt := zin_4 (List.mem_of_getElem? (i := 106) rfl) rfl
theorem k700 : Cond.instanceMethod yX0_run ∈ zt := zin_4 (List.mem_of_getElem? (i := 107) rfl) rfl
theorem k701 : Cond.selects "TapeRings$Echo" yX0_run yX0_run ∈ zt := zin_4 (List.mem_of_getElem? (i := 108) rfl) rfl
theorem k702 : Cond.code yX0_run prog_2_method_4_code (6 : Nat) (Option.none : Option FieldType) ∈ zt := zin_4 (List.mem_of_getElem? (i := 109) rfl) rfl
theorem k703 : Cond.methodLink "TapeRings$Echo" (43 : Nat) yX9_heardInAll ∈ zt := zin_4 (List.mem_of_getElem? (i := 110) rfl) rfl
theorem k704 : Cond.methodLink "TapeRings$Echo" (49 : Nat) yX0_loudness ∈ zt := zin_4 (List.mem_of_getElem? (i := 111) rfl) rfl
theorem k705 : Cond.instanceMethod yX0_loudness ∈ zt := zin_4 (List.mem_of_getElem? (i := 113) rfl) rfl
theorem k706 : Cond.code yX0_loudness prog_2_method_5_code (4 : Nat) (Option.some FieldType.int) ∈ zt := zin_4 (List.mem_of_getElem? (i := 114) rfl) rfl
theorem k707 : Cond.methodLink "TapeRings$Echo" (53 : Nat) yX0_behind ∈ zt := zin_4 (List.mem_of_getElem? (i := 115) rfl) rfl
theorem k708 : Cond.instanceMethod yX0_behind ∈ zt := zin_4 (List.mem_of_getElem? (i := 117) rfl) rfl
theorem k709 : Cond.code yX0_behind prog_2_method_6_code (3 : Nat) (Option.some FieldType.int) ∈ zt := zin_4 (List.mem_of_getElem? (i := 118) rfl) rfl
theorem k710 : Cond.methodLink "TapeRings$Echo" (62 : Nat) yX0_outAt ∈ zt := zin_4 (List.mem_of_getElem? (i := 119) rfl) rfl
theorem k711 : Cond.instanceMethod yX0_outAt ∈ zt := zin_4 (List.mem_of_getElem? (i := 120) rfl) rfl
theorem k712 : Cond.selects "TapeRings$Echo" yX0_outAt yX0_outAt ∈ zt := zin_4 (List.mem_of_getElem? (i := 121) rfl) rfl
theorem k713 : Cond.code yX0_outAt prog_2_method_7_code (2 : Nat) (Option.some FieldType.int) ∈ zt := zin_4 (List.mem_of_getElem? (i := 122) rfl) rfl
theorem k714 : Cond.methodLink "TapeRings$Echo" (57 : Nat) yJ9_min_7cf53 ∈ zt := zin_4 (List.mem_of_getElem? (i := 123) rfl) rfl
theorem k715 : Cond.methodLink "TapeRings" (244 : Nat) yX0_outAt ∈ zt := zin_4 (List.mem_of_getElem? (i := 124) rfl) rfl
theorem k716 : Cond.methodLink "TapeRingsLaw" (152 : Nat) yX11_dies ∈ zt := zin_4 (List.mem_of_getElem? (i := 125) rfl) rfl
theorem k717 : Cond.instanceMethod yX11_dies ∈ zt := zin_4 (List.mem_of_getElem? (i := 126) rfl) rfl
theorem k718 : Cond.selects "TapeRings" yX11_dies yX11_dies ∈ zt := zin_4 (List.mem_of_getElem? (i := 127) rfl) rfl
theorem k719 : Cond.code yX11_dies prog_1_method_30_code (2 : Nat) (Option.some FieldType.int) ∈ zt := zin_4 (List.mem_of_getElem? (i := 128) rfl) rfl
theorem k720 : Cond.methodLink "TapeRings" (247 : Nat) yX0_fate ∈ zt := zin_4 (List.mem_of_getElem? (i := 129) rfl) rfl
theorem k721 : Cond.instanceMethod yX0_fate ∈ zt := zin_4 (List.mem_of_getElem? (i := 130) rfl) rfl
theorem k722 : Cond.selects "TapeRings$Echo" yX0_fate yX0_fate ∈ zt := zin_4 (List.mem_of_getElem? (i := 131) rfl) rfl
theorem k723 : Cond.code yX0_fate prog_2_method_8_code (5 : Nat) (Option.some FieldType.int) ∈ zt := zin_4 (List.mem_of_getElem? (i := 132) rfl) rfl
theorem k724 : Cond.methodLink "TapeRings$Echo" (65 : Nat) yX0_run ∈ zt := zin_4 (List.mem_of_getElem? (i := 133) rfl) rfl
theorem k725 : Cond.methodLink "TapeRings$Echo" (69 : Nat) yX0_firstSilence ∈ zt := zin_4 (List.mem_of_getElem? (i := 134) rfl) rfl
theorem k726 : Cond.instanceMethod yX0_firstSilence ∈ zt := zin_4 (List.mem_of_getElem? (i := 136) rfl) rfl
theorem k727 : Cond.code yX0_firstSilence prog_2_method_9_code (3 : Nat) (Option.some FieldType.int) ∈ zt := zin_4 (List.mem_of_getElem? (i := 137) rfl) rfl
theorem k728 : Cond.methodLink "TapeRings$Echo" (73 : Nat) yX0_comesBackIn ∈ zt := zin_4 (List.mem_of_getElem? (i := 138) rfl) rfl
theorem k729 : Cond.instanceMethod yX0_comesBackIn ∈ zt := zin_4 (List.mem_of_getElem? (i := 140) rfl) rfl
theorem k730 : Cond.code yX0_comesBackIn prog_2_method_10_code (3 : Nat) (Option.some FieldType.int) ∈ zt := zin_4 (List.mem_of_getElem? (i := 141) rfl) rfl
theorem k731 : Cond.methodLink "TapeRings$Echo" (76 : Nat) yX0_alike ∈ zt := zin_4 (List.mem_of_getElem? (i := 142) rfl) rfl
theorem k732 : Cond.instanceMethod yX0_alike ∈ zt := zin_4 (List.mem_of_getElem? (i := 144) rfl) rfl
theorem k733 : Cond.code yX0_alike prog_2_method_11_code (4 : Nat) (Option.some FieldType.boolean) ∈ zt := zin_4 (List.mem_of_getElem? (i := 145) rfl) rfl
theorem k734 : Cond.methodLink "TapeRingsLaw" (156 : Nat) yX11_tape ∈ zt := zin_4 (List.mem_of_getElem? (i := 146) rfl) rfl
theorem k735 : Cond.instanceMethod yX11_tape ∈ zt := zin_4 (List.mem_of_getElem? (i := 147) rfl) rfl
theorem k736 : Cond.selects "TapeRings" yX11_tape yX11_tape ∈ zt := zin_4 (List.mem_of_getElem? (i := 148) rfl) rfl
theorem k737 : Cond.code yX11_tape prog_1_method_31_code (2 : Nat) (Option.some FieldType.int) ∈ zt := zin_4 (List.mem_of_getElem? (i := 149) rfl) rfl
theorem k738 : Cond.methodLink "TapeRings" (253 : Nat) yX3_add ∈ zt := zin_4 (List.mem_of_getElem? (i := 150) rfl) rfl
theorem k739 : Cond.instanceMethod yX3_add ∈ zt := zin_4 (List.mem_of_getElem? (i := 151) rfl) rfl
theorem k740 : Cond.selects "TapeRings$OldTape" yX3_add yX3_add ∈ zt := zin_4 (List.mem_of_getElem? (i := 152) rfl) rfl
theorem k741 : Cond.code yX3_add prog_5_method_2_code (2 : Nat) (Option.some FieldType.int) ∈ zt := zin_4 (List.mem_of_getElem? (i := 153) rfl) rfl
theorem k742 : Cond.methodLink "TapeRingsLaw" (160 : Nat) yX11_take ∈ zt := zin_4 (List.mem_of_getElem? (i := 154) rfl) rfl
theorem k743 : Cond.instanceMethod yX11_take ∈ zt := zin_4 (List.mem_of_getElem? (i := 155) rfl) rfl
theorem k744 : Cond.selects "TapeRings" yX11_take yX11_take ∈ zt := zin_4 (List.mem_of_getElem? (i := 156) rfl) rfl
theorem k745 : Cond.code yX11_take prog_1_method_32_code (4 : Nat) (Option.some FieldType.boolean) ∈ zt := zin_4 (List.mem_of_getElem? (i := 157) rfl) rfl
theorem k746 : Cond.methodLink "TapeRingsLaw" (164 : Nat) yX11_gap ∈ zt := zin_4 (List.mem_of_getElem? (i := 158) rfl) rfl
theorem k747 : Cond.instanceMethod yX11_gap ∈ zt := zin_4 (List.mem_of_getElem? (i := 159) rfl) rfl
theorem k748 : Cond.selects "TapeRings" yX11_gap yX11_gap ∈ zt := zin_4 (List.mem_of_getElem? (i := 160) rfl) rfl
theorem k749 : Cond.code yX11_gap prog_1_method_33_code (2 : Nat) (Option.some FieldType.boolean) ∈ zt := zin_4 (List.mem_of_getElem? (i := 161) rfl) rfl
theorem k750 : Cond.methodLink "TapeRings" (254 : Nat) yX3_makeGap ∈ zt := zin_4 (List.mem_of_getElem? (i := 162) rfl) rfl
theorem k751 : Cond.instanceMethod yX3_makeGap ∈ zt := zin_4 (List.mem_of_getElem? (i := 163) rfl) rfl
theorem k752 : Cond.selects "TapeRings$OldTape" yX3_makeGap yX3_makeGap ∈ zt := zin_4 (List.mem_of_getElem? (i := 164) rfl) rfl
theorem k753 : Cond.code yX3_makeGap prog_5_method_3_code (2 : Nat) (Option.some FieldType.boolean) ∈ zt := zin_4 (List.mem_of_getElem? (i := 165) rfl) rfl
theorem k754 : Cond.methodLink "TapeRingsLaw" (168 : Nat) yX11_wipe ∈ zt := zin_4 (List.mem_of_getElem? (i := 166) rfl) rfl
theorem k755 : Cond.instanceMethod yX11_wipe ∈ zt := zin_4 (List.mem_of_getElem? (i := 167) rfl) rfl
theorem k756 : Cond.selects "TapeRings" yX11_wipe yX11_wipe ∈ zt := zin_4 (List.mem_of_getElem? (i := 168) rfl) rfl
theorem k757 : Cond.code yX11_wipe prog_1_method_34_code (2 : Nat) (Option.some FieldType.int) ∈ zt := zin_4 (List.mem_of_getElem? (i := 169) rfl) rfl
theorem k758 : Cond.methodLink "TapeRingsLaw" (172 : Nat) yX11_span ∈ zt := zin_4 (List.mem_of_getElem? (i := 170) rfl) rfl
theorem k759 : Cond.instanceMethod yX11_span ∈ zt := zin_4 (List.mem_of_getElem? (i := 171) rfl) rfl
theorem k760 : Cond.selects "TapeRings" yX11_span yX11_span ∈ zt := zin_4 (List.mem_of_getElem? (i := 172) rfl) rfl
theorem k761 : Cond.code yX11_span prog_1_method_35_code (2 : Nat) (Option.some FieldType.int) ∈ zt := zin_4 (List.mem_of_getElem? (i := 173) rfl) rfl
theorem k762 : Cond.methodLink "TapeRings" (257 : Nat) yX3_spanNumber ∈ zt := zin_4 (List.mem_of_getElem? (i := 174) rfl) rfl
theorem k763 : Cond.instanceMethod yX3_spanNumber ∈ zt := zin_4 (List.mem_of_getElem? (i := 175) rfl) rfl
theorem k764 : Cond.selects "TapeRings$OldTape" yX3_spanNumber yX3_spanNumber ∈ zt := zin_4 (List.mem_of_getElem? (i := 176) rfl) rfl
theorem k765 : Cond.code yX3_spanNumber prog_5_method_4_code (4 : Nat) (Option.some FieldType.int) ∈ zt := zin_4 (List.mem_of_getElem? (i := 177) rfl) rfl
theorem k766 : Cond.methodLink "TapeRings$OldTape" (25 : Nat) yX3_spanFits ∈ zt := zin_4 (List.mem_of_getElem? (i := 178) rfl) rfl
theorem k767 : Cond.instanceMethod yX3_spanFits ∈ zt := zin_4 (List.mem_of_getElem? (i := 180) rfl) rfl
theorem k768 : Cond.code yX3_spanFits prog_5_method_5_code (4 : Nat) (Option.some FieldType.boolean) ∈ zt := zin_4 (List.mem_of_getElem? (i := 181) rfl) rfl
theorem k769 : Cond.methodLink "TapeRings$OldTape" (29 : Nat) yJ7_fill_53178 ∈ zt := zin_4 (List.mem_of_getElem? (i := 182) rfl) rfl
theorem k770 : Cond.methodLink "TapeRingsLaw" (176 : Nat) yX11_pair ∈ zt := zin_4 (List.mem_of_getElem? (i := 184) rfl) rfl
theorem k771 : Cond.instanceMethod yX11_pair ∈ zt := zin_4 (List.mem_of_getElem? (i := 185) rfl) rfl
theorem k772 : Cond.selects "TapeRings" yX11_pair yX11_pair ∈ zt := zin_4 (List.mem_of_getElem? (i := 186) rfl) rfl
theorem k773 : Cond.code yX11_pair prog_1_method_36_code (2 : Nat) (Option.some FieldType.int) ∈ zt := zin_4 (List.mem_of_getElem? (i := 187) rfl) rfl
theorem k774 : Cond.methodLink "TapeRings" (260 : Nat) yX3_pairNumber ∈ zt := zin_4 (List.mem_of_getElem? (i := 188) rfl) rfl
theorem k775 : Cond.instanceMethod yX3_pairNumber ∈ zt := zin_4 (List.mem_of_getElem? (i := 189) rfl) rfl
theorem k776 : Cond.selects "TapeRings$OldTape" yX3_pairNumber yX3_pairNumber ∈ zt := zin_4 (List.mem_of_getElem? (i := 190) rfl) rfl
theorem k777 : Cond.code yX3_pairNumber prog_5_method_6_code (5 : Nat) (Option.some FieldType.int) ∈ zt := zin_4 (List.mem_of_getElem? (i := 191) rfl) rfl
theorem k778 : Cond.methodLink "TapeRings$OldTape" (39 : Nat) yJ9_max_7cf53 ∈ zt := zin_4 (List.mem_of_getElem? (i := 192) rfl) rfl
theorem k779 : Cond.methodLink "TapeRings$OldTape" (45 : Nat) yX3_pairFits ∈ zt := zin_4 (List.mem_of_getElem? (i := 193) rfl) rfl
theorem k780 : Cond.instanceMethod yX3_pairFits ∈ zt := zin_4 (List.mem_of_getElem? (i := 195) rfl) rfl
theorem k781 : Cond.code yX3_pairFits prog_5_method_7_code (4 : Nat) (Option.some FieldType.boolean) ∈ zt := zin_4 (List.mem_of_getElem? (i := 196) rfl) rfl
theorem k782 : Cond.methodLink "TapeRings$OldTape" (49 : Nat) yX3_makeGreatest ∈ zt := zin_4 (List.mem_of_getElem? (i := 197) rfl) rfl
theorem k783 : Cond.instanceMethod yX3_makeGreatest ∈ zt := zin_4 (List.mem_of_getElem? (i := 199) rfl) rfl
theorem k784 : Cond.code yX3_makeGreatest prog_5_method_8_code (4 : Nat) (Option.none : Option FieldType) ∈ zt := zin_4 (List.mem_of_getElem? (i := 200) rfl) rfl
theorem k785 : Cond.methodLink "TapeRingsLaw" (180 : Nat) yX11_mended ∈ zt := zin_4 (List.mem_of_getElem? (i := 201) rfl) rfl
theorem k786 : Cond.instanceMethod yX11_mended ∈ zt := zin_4 (List.mem_of_getElem? (i := 202) rfl) rfl
theorem k787 : Cond.selects "TapeRings" yX11_mended yX11_mended ∈ zt := zin_4 (List.mem_of_getElem? (i := 203) rfl) rfl
theorem k788 : Cond.code yX11_mended prog_1_method_37_code (2 : Nat) (Option.some FieldType.int) ∈ zt := zin_4 (List.mem_of_getElem? (i := 204) rfl) rfl
theorem k789 : Cond.methodLink "TapeRings" (263 : Nat) yX3_mendedAt ∈ zt := zin_4 (List.mem_of_getElem? (i := 205) rfl) rfl
theorem k790 : Cond.instanceMethod yX3_mendedAt ∈ zt := zin_4 (List.mem_of_getElem? (i := 206) rfl) rfl
theorem k791 : Cond.selects "TapeRings$OldTape" yX3_mendedAt yX3_mendedAt ∈ zt := zin_4 (List.mem_of_getElem? (i := 207) rfl) rfl
theorem k792 : Cond.code yX3_mendedAt prog_5_method_9_code (3 : Nat) (Option.some FieldType.int) ∈ zt := zin_4 (List.mem_of_getElem? (i := 208) rfl) rfl
theorem k793 : Cond.methodLink "TapeRings$OldTape" (52 : Nat) yX3_pairNumber ∈ zt := zin_4 (List.mem_of_getElem? (i := 209) rfl) rfl
theorem k794 : Cond.methodLink "TapeRingsLaw" (184 : Nat) yX11_piece ∈ zt := zin_4 (List.mem_of_getElem? (i := 210) rfl) rfl
theorem k795 : Cond.instanceMethod yX11_piece ∈ zt := zin_4 (List.mem_of_getElem? (i := 211) rfl) rfl
theorem k796 : Cond.selects "TapeRings" yX11_piece yX11_piece ∈ zt := zin_4 (List.mem_of_getElem? (i := 212) rfl) rfl
theorem k797 : Cond.code yX11_piece prog_1_method_38_code (3 : Nat) (Option.some FieldType.int) ∈ zt := zin_4 (List.mem_of_getElem? (i := 213) rfl) rfl
theorem k798 : Cond.methodLink "TapeRings" (266 : Nat) yX4_add ∈ zt := zin_4 (List.mem_of_getElem? (i := 214) rfl) rfl
theorem k799 : Cond.instanceMethod yX4_add ∈ zt := zin_4 (List.mem_of_getElem? (i := 215) rfl) rfl
theorem k800 : Cond.selects "TapeRings$Pieces" yX4_add yX4_add ∈ zt := zin_4 (List.mem_of_getElem? (i := 216) rfl) rfl
theorem k801 : Cond.code yX4_add prog_6_method_2_code (5 : Nat) (Option.some FieldType.int) ∈ zt := zin_4 (List.mem_of_getElem? (i := 217) rfl) rfl
theorem k802 : Cond.methodLink "TapeRings$Pieces" (33 : Nat) yX4_digit ∈ zt := zin_4 (List.mem_of_getElem? (i := 218) rfl) rfl
theorem k803 : Cond.static yX4_digit ∈ zt := zin_4 (List.mem_of_getElem? (i := 219) rfl) rfl
theorem k804 : Cond.code yX4_digit prog_6_method_3_code (2 : Nat) (Option.some FieldType.int) ∈ zt := zin_4 (List.mem_of_getElem? (i := 220) rfl) rfl
theorem k805 : Cond.methodLink "TapeRingsLaw" (188 : Nat) yX11_burn ∈ zt := zin_4 (List.mem_of_getElem? (i := 221) rfl) rfl
theorem k806 : Cond.instanceMethod yX11_burn ∈ zt := zin_4 (List.mem_of_getElem? (i := 222) rfl) rfl
theorem k807 : Cond.selects "TapeRings" yX11_burn yX11_burn ∈ zt := zin_4 (List.mem_of_getElem? (i := 223) rfl) rfl
theorem k808 : Cond.code yX11_burn prog_1_method_39_code (2 : Nat) (Option.some FieldType.int) ∈ zt := zin_4 (List.mem_of_getElem? (i := 224) rfl) rfl
theorem k809 : Cond.methodLink "TapeRingsLaw" (192 : Nat) yX11_join ∈ zt := zin_4 (List.mem_of_getElem? (i := 225) rfl) rfl
theorem k810 : Cond.instanceMethod yX11_join ∈ zt := zin_4 (List.mem_of_getElem? (i := 226) rfl) rfl
theorem k811 : Cond.selects "TapeRings" yX11_join yX11_join ∈ zt := zin_4 (List.mem_of_getElem? (i := 227) rfl) rfl
theorem k812 : Cond.code yX11_join prog_1_method_40_code (2 : Nat) (Option.some FieldType.int) ∈ zt := zin_4 (List.mem_of_getElem? (i := 228) rfl) rfl
theorem k813 : Cond.methodLink "TapeRings" (267 : Nat) yX4_joinAll ∈ zt := zin_4 (List.mem_of_getElem? (i := 229) rfl) rfl
theorem k814 : Cond.instanceMethod yX4_joinAll ∈ zt := zin_4 (List.mem_of_getElem? (i := 230) rfl) rfl
theorem k815 : Cond.selects "TapeRings$Pieces" yX4_joinAll yX4_joinAll ∈ zt := zin_4 (List.mem_of_getElem? (i := 231) rfl) rfl
theorem k816 : Cond.code yX4_joinAll prog_6_method_4_code (1 : Nat) (Option.some FieldType.int) ∈ zt := zin_4 (List.mem_of_getElem? (i := 232) rfl) rfl
theorem k817 : Cond.methodLink "TapeRings$Pieces" (37 : Nat) yX4_layRest ∈ zt := zin_4 (List.mem_of_getElem? (i := 233) rfl) rfl
theorem k818 : Cond.static yX4_layRest ∈ zt := zin_4 (List.mem_of_getElem? (i := 234) rfl) rfl
theorem k819 : Cond.code yX4_layRest prog_6_method_5_code (6 : Nat) (Option.none : Option FieldType) ∈ zt := zin_4 (List.mem_of_getElem? (i := 235) rfl) rfl
theorem k820 : Cond.methodLink "TapeRings$Pieces" (41 : Nat) yX4_keepBetter ∈ zt := zin_4 (List.mem_of_getElem? (i := 236) rfl) rfl
theorem k821 : Cond.instanceMethod yX4_keepBetter ∈ zt := zin_4 (List.mem_of_getElem? (i := 238) rfl) rfl
theorem k822 : Cond.code yX4_keepBetter prog_6_method_9_code (2 : Nat) (Option.none : Option FieldType) ∈ zt := zin_4 (List.mem_of_getElem? (i := 239) rfl) rfl
theorem k823 : Cond.methodLink "TapeRings$Pieces" (61 : Nat) yX4_laidIsLess ∈ zt := zin_5 (List.mem_of_getElem? (i := 0) rfl) rfl
theorem k824 : Cond.instanceMethod yX4_laidIsLess ∈ zt := zin_5 (List.mem_of_getElem? (i := 2) rfl) rfl
theorem k825 : Cond.code yX4_laidIsLess prog_6_method_10_code (3 : Nat) (Option.some FieldType.boolean) ∈ zt := zin_5 (List.mem_of_getElem? (i := 3) rfl) rfl
theorem k826 : Cond.methodLink "TapeRings$Pieces" (65 : Nat) (⟨"java/lang/System", "arraycopy", "(Ljava/lang/Object;ILjava/lang/Object;II)V"⟩ : MethodName) ∈ zt := zin_5 (List.mem_of_getElem? (i := 4) rfl) rfl
theorem k827 : Cond.methodLink "TapeRings$Pieces" (45 : Nat) yX4_layPiece ∈ zt := zin_5 (List.mem_of_getElem? (i := 5) rfl) rfl
theorem k828 : Cond.instanceMethod yX4_layPiece ∈ zt := zin_5 (List.mem_of_getElem? (i := 7) rfl) rfl
theorem k829 : Cond.code yX4_layPiece prog_6_method_6_code (7 : Nat) (Option.some FieldType.int) ∈ zt := zin_5 (List.mem_of_getElem? (i := 8) rfl) rfl
theorem k830 : Cond.methodLink "TapeRings$Pieces" (49 : Nat) yJ9_min_7cf53 ∈ zt := zin_5 (List.mem_of_getElem? (i := 9) rfl) rfl
theorem k831 : Cond.methodLink "TapeRings$Pieces" (54 : Nat) yX4_alike ∈ zt := zin_5 (List.mem_of_getElem? (i := 10) rfl) rfl
theorem k832 : Cond.instanceMethod yX4_alike ∈ zt := zin_5 (List.mem_of_getElem? (i := 12) rfl) rfl
theorem k833 : Cond.code yX4_alike prog_6_method_7_code (6 : Nat) (Option.some FieldType.boolean) ∈ zt := zin_5 (List.mem_of_getElem? (i := 13) rfl) rfl
theorem k834 : Cond.methodLink "TapeRings$Pieces" (58 : Nat) yX4_sound ∈ zt := zin_5 (List.mem_of_getElem? (i := 14) rfl) rfl
theorem k835 : Cond.instanceMethod yX4_sound ∈ zt := zin_5 (List.mem_of_getElem? (i := 16) rfl) rfl
theorem k836 : Cond.code yX4_sound prog_6_method_8_code (4 : Nat) (Option.some FieldType.int) ∈ zt := zin_5 (List.mem_of_getElem? (i := 17) rfl) rfl
theorem k837 : Cond.methodLink "TapeRingsLaw" (196 : Nat) yX11_keep ∈ zt := zin_5 (List.mem_of_getElem? (i := 18) rfl) rfl
theorem k838 : Cond.instanceMethod yX11_keep ∈ zt := zin_5 (List.mem_of_getElem? (i := 19) rfl) rfl
theorem k839 : Cond.selects "TapeRings" yX11_keep yX11_keep ∈ zt := zin_5 (List.mem_of_getElem? (i := 20) rfl) rfl
theorem k840 : Cond.code yX11_keep prog_1_method_41_code (4 : Nat) (Option.some FieldType.int) ∈ zt := zin_5 (List.mem_of_getElem? (i := 21) rfl) rfl
theorem k841 : Cond.methodLink "TapeRings" (273 : Nat) yX10_add ∈ zt := zin_5 (List.mem_of_getElem? (i := 22) rfl) rfl
theorem k842 : Cond.instanceMethod yX10_add ∈ zt := zin_5 (List.mem_of_getElem? (i := 23) rfl) rfl
theorem k843 : Cond.selects "TapeRings$Versions" yX10_add yX10_add ∈ zt := zin_5 (List.mem_of_getElem? (i := 24) rfl) rfl
theorem k844 : Cond.code yX10_add prog_12_method_2_code (4 : Nat) (Option.some FieldType.int) ∈ zt := zin_5 (List.mem_of_getElem? (i := 25) rfl) rfl
theorem k845 : Cond.methodLink "TapeRings$Versions" (32 : Nat) yX8_copy ∈ zt := zin_5 (List.mem_of_getElem? (i := 26) rfl) rfl
theorem k846 : Cond.methodLink "TapeRingsLaw" (200 : Nat) yX11_known ∈ zt := zin_5 (List.mem_of_getElem? (i := 27) rfl) rfl
theorem k847 : Cond.instanceMethod yX11_known ∈ zt := zin_5 (List.mem_of_getElem? (i := 28) rfl) rfl
theorem k848 : Cond.selects "TapeRings" yX11_known yX11_known ∈ zt := zin_5 (List.mem_of_getElem? (i := 29) rfl) rfl
theorem k849 : Cond.code yX11_known prog_1_method_42_code (3 : Nat) (Option.some FieldType.int) ∈ zt := zin_5 (List.mem_of_getElem? (i := 30) rfl) rfl
theorem k850 : Cond.methodLink "TapeRings" (274 : Nat) yX10_latest ∈ zt := zin_5 (List.mem_of_getElem? (i := 31) rfl) rfl
theorem k851 : Cond.instanceMethod yX10_latest ∈ zt := zin_5 (List.mem_of_getElem? (i := 32) rfl) rfl
theorem k852 : Cond.selects "TapeRings$Versions" yX10_latest yX10_latest ∈ zt := zin_5 (List.mem_of_getElem? (i := 33) rfl) rfl
theorem k853 : Cond.code yX10_latest prog_12_method_4_code (4 : Nat) (Option.some FieldType.int) ∈ zt := zin_5 (List.mem_of_getElem? (i := 34) rfl) rfl
theorem k854 : Cond.methodLink "TapeRingsLaw" (204 : Nat) yX11_fetch ∈ zt := zin_5 (List.mem_of_getElem? (i := 35) rfl) rfl
theorem k855 : Cond.instanceMethod yX11_fetch ∈ zt := zin_5 (List.mem_of_getElem? (i := 36) rfl) rfl
theorem k856 : Cond.selects "TapeRings" yX11_fetch yX11_fetch ∈ zt := zin_5 (List.mem_of_getElem? (i := 37) rfl) rfl
theorem k857 : Cond.code yX11_fetch prog_1_method_43_code (3 : Nat) (Option.some FieldType.int) ∈ zt := zin_5 (List.mem_of_getElem? (i := 38) rfl) rfl
theorem k858 : Cond.methodLink "TapeRings" (277 : Nat) yX10_find ∈ zt := zin_5 (List.mem_of_getElem? (i := 39) rfl) rfl
theorem k859 : Cond.instanceMethod yX10_find ∈ zt := zin_5 (List.mem_of_getElem? (i := 40) rfl) rfl
theorem k860 : Cond.selects "TapeRings$Versions" yX10_find yX10_find ∈ zt := zin_5 (List.mem_of_getElem? (i := 41) rfl) rfl
theorem k861 : Cond.code yX10_find prog_12_method_3_code (2 : Nat) (Option.some (FieldType.object "TapeRings$Strip")) ∈ zt := zin_5 (List.mem_of_getElem? (i := 42) rfl) rfl
theorem k862 : Cond.methodLink "TapeRings" (280 : Nat) yX8_copy ∈ zt := zin_5 (List.mem_of_getElem? (i := 43) rfl) rfl
theorem k863 : Cond.methodLink "TapeRingsLaw" (208 : Nat) yX11_edits ∈ zt := zin_5 (List.mem_of_getElem? (i := 44) rfl) rfl
theorem k864 : Cond.instanceMethod yX11_edits ∈ zt := zin_5 (List.mem_of_getElem? (i := 45) rfl) rfl
theorem k865 : Cond.selects "TapeRings" yX11_edits yX11_edits ∈ zt := zin_5 (List.mem_of_getElem? (i := 46) rfl) rfl
theorem k866 : Cond.code yX11_edits prog_1_method_44_code (5 : Nat) (Option.some FieldType.int) ∈ zt := zin_5 (List.mem_of_getElem? (i := 47) rfl) rfl
theorem k867 : Cond.methodLink "TapeRings" (284 : Nat) yX10_fewestEdits ∈ zt := zin_5 (List.mem_of_getElem? (i := 48) rfl) rfl
theorem k868 : Cond.instanceMethod yX10_fewestEdits ∈ zt := zin_5 (List.mem_of_getElem? (i := 49) rfl) rfl
theorem k869 : Cond.selects "TapeRings$Versions" yX10_fewestEdits yX10_fewestEdits ∈ zt := zin_5 (List.mem_of_getElem? (i := 50) rfl) rfl
theorem k870 : Cond.code yX10_fewestEdits prog_12_method_5_code (5 : Nat) (Option.some FieldType.int) ∈ zt := zin_5 (List.mem_of_getElem? (i := 51) rfl) rfl
theorem k871 : Cond.methodLink "TapeRings$Versions" (39 : Nat) yJ9_max_7cf53 ∈ zt := zin_5 (List.mem_of_getElem? (i := 52) rfl) rfl
theorem k872 : Cond.methodLink "TapeRings$Versions" (45 : Nat) yX10_editsTurned ∈ zt := zin_5 (List.mem_of_getElem? (i := 53) rfl) rfl
theorem k873 : Cond.instanceMethod yX10_editsTurned ∈ zt := zin_5 (List.mem_of_getElem? (i := 55) rfl) rfl
theorem k874 : Cond.code yX10_editsTurned prog_12_method_6_code (9 : Nat) (Option.some FieldType.int) ∈ zt := zin_5 (List.mem_of_getElem? (i := 56) rfl) rfl
theorem k875 : Cond.methodLink "TapeRings$Versions" (49 : Nat) yJ9_min_7cf53 ∈ zt := zin_5 (List.mem_of_getElem? (i := 58) rfl) rfl
theorem k876 : Cond.methodLink "TapeRingsLaw" (76 : Nat) yL_of ∈ zt := zin_5 (List.mem_of_getElem? (i := 59) rfl) rfl
theorem k877 : Cond.static yL_of ∈ zt := zin_5 (List.mem_of_getElem? (i := 60) rfl) rfl
theorem k878 : Cond.classLink "TapeRingsLaw" (13 : Nat) "java/util/NoSuchElementException" ∈ zt := zin_5 (List.mem_of_getElem? (i := 62) rfl) rfl
theorem k879 : Cond.methodLink "TapeRingsLaw" (7 : Nat) yX11_of ∈ zt := zin_5 (List.mem_of_getElem? (i := 63) rfl) rfl
theorem k880 : Cond.instanceMethod yX11_of ∈ zt := zin_5 (List.mem_of_getElem? (i := 64) rfl) rfl
theorem k881 : Cond.selects "TapeRings" yX11_of yX11_of ∈ zt := zin_5 (List.mem_of_getElem? (i := 65) rfl) rfl
theorem k882 : Cond.code yX11_of prog_1_method_13_code (4 : Nat) (Option.some FieldType.int) ∈ zt := zin_5 (List.mem_of_getElem? (i := 66) rfl) rfl
theorem k883 : Cond.classLink "TapeRings" (156 : Nat) "java/util/NoSuchElementException" ∈ zt := zin_5 (List.mem_of_getElem? (i := 67) rfl) rfl
theorem k884 : Cond.instantiable "java/util/NoSuchElementException" (6 : Nat) ∈ zt := zin_5 (List.mem_of_getElem? (i := 68) rfl) rfl
theorem k885 : Cond.selects "java/util/NoSuchElementException" (⟨"java/lang/Throwable", "fillInStackTrace", "(I)Ljava/lang/Throwable;"⟩ : MethodName) (⟨"java/lang/Throwable", "fillInStackTrace", "(I)Ljava/lang/Throwable;"⟩ : MethodName) ∈ zt := zin_5 (List.mem_of_getElem? (i := 76) rfl) rfl
theorem k886 : Cond.selects "java/util/NoSuchElementException" (⟨"java/lang/Throwable", "fillInStackTrace", "()Ljava/lang/Throwable;"⟩ : MethodName) (⟨"java/lang/Throwable", "fillInStackTrace", "()Ljava/lang/Throwable;"⟩ : MethodName) ∈ zt := zin_5 (List.mem_of_getElem? (i := 77) rfl) rfl
theorem k887 : Cond.lays "java/util/NoSuchElementException" "java/lang/Throwable" "cause" "Ljava/lang/Throwable;" ∈ zt := zin_5 (List.mem_of_getElem? (i := 78) rfl) rfl
theorem k888 : Cond.lays "java/lang/Throwable" "java/lang/Throwable" "cause" "Ljava/lang/Throwable;" ∈ zt := zin_5 (List.mem_of_getElem? (i := 79) rfl) rfl
theorem k889 : Cond.lays "java/util/NoSuchElementException" "java/lang/Throwable" "stackTrace" "[Ljava/lang/StackTraceElement;" ∈ zt := zin_5 (List.mem_of_getElem? (i := 80) rfl) rfl
theorem k890 : Cond.lays "java/lang/Throwable" "java/lang/Throwable" "stackTrace" "[Ljava/lang/StackTraceElement;" ∈ zt := zin_5 (List.mem_of_getElem? (i := 81) rfl) rfl
theorem k891 : Cond.lays "java/util/NoSuchElementException" "java/lang/Throwable" "suppressedExceptions" "Ljava/util/List;" ∈ zt := zin_5 (List.mem_of_getElem? (i := 82) rfl) rfl
theorem k892 : Cond.lays "java/lang/Throwable" "java/lang/Throwable" "suppressedExceptions" "Ljava/util/List;" ∈ zt := zin_5 (List.mem_of_getElem? (i := 83) rfl) rfl
theorem k893 : Cond.lays "java/util/NoSuchElementException" "java/lang/Throwable" "detailMessage" "Ljava/lang/String;" ∈ zt := zin_5 (List.mem_of_getElem? (i := 84) rfl) rfl
theorem k894 : Cond.lays "java/lang/Throwable" "java/lang/Throwable" "detailMessage" "Ljava/lang/String;" ∈ zt := zin_5 (List.mem_of_getElem? (i := 85) rfl) rfl
theorem k895 : Cond.lays "java/util/NoSuchElementException" "java/lang/Throwable" "backtrace" "Ljava/lang/Object;" ∈ zt := zin_5 (List.mem_of_getElem? (i := 86) rfl) rfl
theorem k896 : Cond.lays "java/lang/Throwable" "java/lang/Throwable" "backtrace" "Ljava/lang/Object;" ∈ zt := zin_5 (List.mem_of_getElem? (i := 87) rfl) rfl
theorem k897 : Cond.fieldLink "java/lang/Throwable" (198 : Nat) "java/lang/Throwable" "backtrace" "Ljava/lang/Object;" ∈ zt := zin_5 (List.mem_of_getElem? (i := 88) rfl) rfl
theorem k898 : Cond.instanceMethod (⟨"java/lang/Throwable", "<init>", "()V"⟩ : MethodName) ∈ zt := zin_5 (List.mem_of_getElem? (i := 90) rfl) rfl
theorem k899 : Cond.code (⟨"java/lang/Throwable", "<init>", "()V"⟩ : MethodName) prog_21_method_1_code (1 : Nat) (Option.none : Option FieldType) ∈ zt := zin_5 (List.mem_of_getElem? (i := 91) rfl) rfl
theorem k900 : Cond.methodLink "java/lang/Throwable" (1 : Nat) (⟨"java/lang/Object", "<init>", "()V"⟩ : MethodName) ∈ zt := zin_5 (List.mem_of_getElem? (i := 92) rfl) rfl
theorem k901 : Cond.fieldLink "java/lang/Throwable" (13 : Nat) "java/lang/Throwable" "UNASSIGNED_STACK" "[Ljava/lang/StackTraceElement;" ∈ zt := zin_5 (List.mem_of_getElem? (i := 93) rfl) rfl
theorem k902 : Cond.fieldLink "java/lang/Throwable" (20 : Nat) "java/lang/Throwable" "SUPPRESSED_SENTINEL" "Ljava/util/List;" ∈ zt := zin_5 (List.mem_of_getElem? (i := 95) rfl) rfl
theorem k903 : Cond.methodLink "java/lang/Throwable" (27 : Nat) (⟨"java/lang/Throwable", "fillInStackTrace", "()Ljava/lang/Throwable;"⟩ : MethodName) ∈ zt := zin_5 (List.mem_of_getElem? (i := 97) rfl) rfl
theorem k904 : Cond.instanceMethod (⟨"java/lang/Throwable", "fillInStackTrace", "()Ljava/lang/Throwable;"⟩ : MethodName) ∈ zt := zin_5 (List.mem_of_getElem? (i := 98) rfl) rfl
theorem k905 : Cond.methodLink "java/lang/Throwable" (202 : Nat) (⟨"java/lang/Throwable", "fillInStackTrace", "(I)Ljava/lang/Throwable;"⟩ : MethodName) ∈ zt := zin_5 (List.mem_of_getElem? (i := 101) rfl) rfl
theorem k906 : Cond.instanceMethod (⟨"java/lang/Throwable", "fillInStackTrace", "(I)Ljava/lang/Throwable;"⟩ : MethodName) ∈ zt := zin_5 (List.mem_of_getElem? (i := 103) rfl) rfl
theorem k907 : Cond.instantiable "java/lang/Throwable" (6 : Nat) ∈ zt := zin_5 (List.mem_of_getElem? (i := 104) rfl) rfl
theorem k908 : Cond.native (⟨"java/lang/Throwable", "fillInStackTrace", "(I)Ljava/lang/Throwable;"⟩ : MethodName) ∈ zt := zin_5 (List.mem_of_getElem? (i := 105) rfl) rfl
theorem k909 : Cond.methodLink "TapeRings" (158 : Nat) (⟨"java/util/NoSuchElementException", "<init>", "()V"⟩ : MethodName) ∈ zt := zin_5 (List.mem_of_getElem? (i := 106) rfl) rfl
theorem k910 : Cond.instanceMethod (⟨"java/util/NoSuchElementException", "<init>", "()V"⟩ : MethodName) ∈ zt := zin_5 (List.mem_of_getElem? (i := 107) rfl) rfl
theorem k911 : Cond.code (⟨"java/util/NoSuchElementException", "<init>", "()V"⟩ : MethodName) prog_23_method_1_code (1 : Nat) (Option.none : Option FieldType) ∈ zt := zin_5 (List.mem_of_getElem? (i := 108) rfl) rfl
theorem k912 : Cond.methodLink "java/util/NoSuchElementException" (1 : Nat) (⟨"java/lang/RuntimeException", "<init>", "()V"⟩ : MethodName) ∈ zt := zin_5 (List.mem_of_getElem? (i := 109) rfl) rfl
theorem k913 : Cond.instanceMethod (⟨"java/lang/RuntimeException", "<init>", "()V"⟩ : MethodName) ∈ zt := zin_5 (List.mem_of_getElem? (i := 110) rfl) rfl
theorem k914 : Cond.code (⟨"java/lang/RuntimeException", "<init>", "()V"⟩ : MethodName) prog_19_method_1_code (1 : Nat) (Option.none : Option FieldType) ∈ zt := zin_5 (List.mem_of_getElem? (i := 111) rfl) rfl
theorem k915 : Cond.methodLink "java/lang/RuntimeException" (1 : Nat) (⟨"java/lang/Exception", "<init>", "()V"⟩ : MethodName) ∈ zt := zin_5 (List.mem_of_getElem? (i := 112) rfl) rfl
theorem k916 : Cond.instanceMethod (⟨"java/lang/Exception", "<init>", "()V"⟩ : MethodName) ∈ zt := zin_5 (List.mem_of_getElem? (i := 113) rfl) rfl
theorem k917 : Cond.code (⟨"java/lang/Exception", "<init>", "()V"⟩ : MethodName) prog_16_method_1_code (1 : Nat) (Option.none : Option FieldType) ∈ zt := zin_5 (List.mem_of_getElem? (i := 114) rfl) rfl
theorem k918 : Cond.methodLink "java/lang/Exception" (1 : Nat) (⟨"java/lang/Throwable", "<init>", "()V"⟩ : MethodName) ∈ zt := zin_5 (List.mem_of_getElem? (i := 115) rfl) rfl
theorem k919 : Cond.fieldLink "java/lang/Throwable" (7 : Nat) "java/lang/Throwable" "cause" "Ljava/lang/Throwable;" ∈ zt := zin_5 (List.mem_of_getElem? (i := 117) rfl) rfl
theorem k920 : Cond.fieldLink "java/lang/Throwable" (17 : Nat) "java/lang/Throwable" "stackTrace" "[Ljava/lang/StackTraceElement;" ∈ zt := zin_5 (List.mem_of_getElem? (i := 118) rfl) rfl
theorem k921 : Cond.fieldLink "java/lang/Throwable" (24 : Nat) "java/lang/Throwable" "suppressedExceptions" "Ljava/util/List;" ∈ zt := zin_5 (List.mem_of_getElem? (i := 119) rfl) rfl
theorem k922 : Cond.lays "java/util/NoSuchElementException" "java/lang/Throwable" "depth" "I" ∈ zt := zin_5 (List.mem_of_getElem? (i := 124) rfl) rfl
theorem k923 : Cond.methodLink "TapeRings" (162 : Nat) yX9_roundOf ∈ zt := zin_5 (List.mem_of_getElem? (i := 128) rfl) rfl
theorem k924 : Cond.methodLink "TapeRingsLaw" (86 : Nat) yL_way ∈ zt := zin_5 (List.mem_of_getElem? (i := 129) rfl) rfl
theorem k925 : Cond.static yL_way ∈ zt := zin_5 (List.mem_of_getElem? (i := 130) rfl) rfl
theorem k926 : Cond.methodLink "TapeRingsLaw" (15 : Nat) yX11_way ∈ zt := zin_5 (List.mem_of_getElem? (i := 132) rfl) rfl
theorem k927 : Cond.instanceMethod yX11_way ∈ zt := zin_5 (List.mem_of_getElem? (i := 133) rfl) rfl
theorem k928 : Cond.selects "TapeRings" yX11_way yX11_way ∈ zt := zin_5 (List.mem_of_getElem? (i := 134) rfl) rfl
theorem k929 : Cond.code yX11_way prog_1_method_15_code (3 : Nat) (Option.some FieldType.long) ∈ zt := zin_5 (List.mem_of_getElem? (i := 135) rfl) rfl
theorem k930 : Cond.constant "TapeRings" (169 : Nat) (1000000000 : Int32) ∈ zt := zin_5 (List.mem_of_getElem? (i := 136) rfl) rfl
theorem k931 : Cond.methodLink "TapeRings" (170 : Nat) yX2_wayTo ∈ zt := zin_5 (List.mem_of_getElem? (i := 137) rfl) rfl
theorem k932 : Cond.methodLink "TapeRingsLaw" (212 : Nat) yL_row ∈ zt := zin_5 (List.mem_of_getElem? (i := 138) rfl) rfl
theorem k933 : Cond.static yL_row ∈ zt := zin_5 (List.mem_of_getElem? (i := 139) rfl) rfl
theorem k934 : Cond.methodLink "TapeRingsLaw" (19 : Nat) yX11_row ∈ zt := zin_5 (List.mem_of_getElem? (i := 141) rfl) rfl
theorem k935 : Cond.instanceMethod yX11_row ∈ zt := zin_5 (List.mem_of_getElem? (i := 142) rfl) rfl
theorem k936 : Cond.selects "TapeRings" yX11_row yX11_row ∈ zt := zin_5 (List.mem_of_getElem? (i := 143) rfl) rfl
theorem k937 : Cond.code yX11_row prog_1_method_45_code (2 : Nat) (Option.some FieldType.int) ∈ zt := zin_5 (List.mem_of_getElem? (i := 144) rfl) rfl
theorem k938 : Cond.classLink "TapeRingsLaw" (24 : Nat) "TapeRingsModel" ∈ zt := zin_5 (List.mem_of_getElem? (i := 145) rfl) rfl
theorem k939 : Cond.instantiable "TapeRingsModel" (50 : Nat) ∈ zt := zin_5 (List.mem_of_getElem? (i := 146) rfl) rfl
theorem k940 : Cond.methodLink "TapeRingsLaw" (26 : Nat) yX12_init ∈ zt := zin_5 (List.mem_of_getElem? (i := 147) rfl) rfl
theorem k941 : Cond.instanceMethod yX12_init ∈ zt := zin_5 (List.mem_of_getElem? (i := 148) rfl) rfl
theorem k942 : Cond.code yX12_init prog_14_method_1_code (2 : Nat) (Option.none : Option FieldType) ∈ zt := zin_5 (List.mem_of_getElem? (i := 149) rfl) rfl
theorem k943 : Cond.methodLink "TapeRingsModel" (1 : Nat) (⟨"java/lang/Object", "<init>", "()V"⟩ : MethodName) ∈ zt := zin_5 (List.mem_of_getElem? (i := 150) rfl) rfl
theorem k944 : Cond.fieldLink "TapeRingsModel" (9 : Nat) "TapeRingsModel" "text" "[B" ∈ zt := zin_5 (List.mem_of_getElem? (i := 151) rfl) rfl
theorem k945 : Cond.fieldLink "TapeRingsModel" (128 : Nat) "TapeRingsModel" "size" "I" ∈ zt := zin_5 (List.mem_of_getElem? (i := 152) rfl) rfl
theorem k946 : Cond.fieldLink "TapeRingsModel" (13 : Nat) "TapeRingsModel" "hand" "[I" ∈ zt := zin_5 (List.mem_of_getElem? (i := 153) rfl) rfl
theorem k947 : Cond.fieldLink "TapeRingsModel" (162 : Nat) "TapeRingsModel" "handMany" "I" ∈ zt := zin_5 (List.mem_of_getElem? (i := 154) rfl) rfl
theorem k948 : Cond.fieldLink "TapeRingsModel" (17 : Nat) "TapeRingsModel" "inches" "[I" ∈ zt := zin_5 (List.mem_of_getElem? (i := 155) rfl) rfl
theorem k949 : Cond.fieldLink "TapeRingsModel" (20 : Nat) "TapeRingsModel" "length" "[I" ∈ zt := zin_5 (List.mem_of_getElem? (i := 156) rfl) rfl
theorem k950 : Cond.fieldLink "TapeRingsModel" (23 : Nat) "TapeRingsModel" "motorOf" "[I" ∈ zt := zin_5 (List.mem_of_getElem? (i := 157) rfl) rfl
theorem k951 : Cond.fieldLink "TapeRingsModel" (26 : Nat) "TapeRingsModel" "start" "[I" ∈ zt := zin_5 (List.mem_of_getElem? (i := 158) rfl) rfl
theorem k952 : Cond.fieldLink "TapeRingsModel" (29 : Nat) "TapeRingsModel" "heads" "[I" ∈ zt := zin_5 (List.mem_of_getElem? (i := 159) rfl) rfl
theorem k953 : Cond.fieldLink "TapeRingsModel" (32 : Nat) "TapeRingsModel" "wish" "[I" ∈ zt := zin_5 (List.mem_of_getElem? (i := 160) rfl) rfl
theorem k954 : Cond.fieldLink "TapeRingsModel" (121 : Nat) "TapeRingsModel" "rings" "I" ∈ zt := zin_5 (List.mem_of_getElem? (i := 161) rfl) rfl
theorem k955 : Cond.fieldLink "TapeRingsModel" (35 : Nat) "TapeRingsModel" "ticks" "[I" ∈ zt := zin_5 (List.mem_of_getElem? (i := 162) rfl) rfl
theorem k956 : Cond.fieldLink "TapeRingsModel" (38 : Nat) "TapeRingsModel" "speeds" "[I" ∈ zt := zin_5 (List.mem_of_getElem? (i := 163) rfl) rfl
theorem k957 : Cond.fieldLink "TapeRingsModel" (41 : Nat) "TapeRingsModel" "toldMany" "[I" ∈ zt := zin_5 (List.mem_of_getElem? (i := 164) rfl) rfl
theorem k958 : Cond.fieldLink "TapeRingsModel" (44 : Nat) "TapeRingsModel" "markTick" "[I" ∈ zt := zin_5 (List.mem_of_getElem? (i := 165) rfl) rfl
theorem k959 : Cond.fieldLink "TapeRingsModel" (47 : Nat) "TapeRingsModel" "markSound" "[I" ∈ zt := zin_5 (List.mem_of_getElem? (i := 166) rfl) rfl
theorem k960 : Cond.fieldLink "TapeRingsModel" (176 : Nat) "TapeRingsModel" "marks" "I" ∈ zt := zin_5 (List.mem_of_getElem? (i := 167) rfl) rfl
theorem k961 : Cond.fieldLink "TapeRingsModel" (50 : Nat) "TapeRingsModel" "weights" "[I" ∈ zt := zin_5 (List.mem_of_getElem? (i := 168) rfl) rfl
theorem k962 : Cond.fieldLink "TapeRingsModel" (53 : Nat) "TapeRingsModel" "d" "I" ∈ zt := zin_5 (List.mem_of_getElem? (i := 169) rfl) rfl
theorem k963 : Cond.fieldLink "TapeRingsModel" (277 : Nat) "TapeRingsModel" "a" "I" ∈ zt := zin_5 (List.mem_of_getElem? (i := 170) rfl) rfl
theorem k964 : Cond.fieldLink "TapeRingsModel" (57 : Nat) "TapeRingsModel" "e" "I" ∈ zt := zin_5 (List.mem_of_getElem? (i := 171) rfl) rfl
theorem k965 : Cond.fieldLink "TapeRingsModel" (280 : Nat) "TapeRingsModel" "b" "I" ∈ zt := zin_5 (List.mem_of_getElem? (i := 172) rfl) rfl
theorem k966 : Cond.fieldLink "TapeRingsModel" (283 : Nat) "TapeRingsModel" "stop" "I" ∈ zt := zin_5 (List.mem_of_getElem? (i := 173) rfl) rfl
theorem k967 : Cond.fieldLink "TapeRingsModel" (60 : Nat) "TapeRingsModel" "tape" "[I" ∈ zt := zin_5 (List.mem_of_getElem? (i := 174) rfl) rfl
theorem k968 : Cond.fieldLink "TapeRingsModel" (179 : Nat) "TapeRingsModel" "taped" "I" ∈ zt := zin_5 (List.mem_of_getElem? (i := 175) rfl) rfl
theorem k969 : Cond.fieldLink "TapeRingsModel" (63 : Nat) "TapeRingsModel" "pieces" "[I" ∈ zt := zin_5 (List.mem_of_getElem? (i := 176) rfl) rfl
theorem k970 : Cond.fieldLink "TapeRingsModel" (66 : Nat) "TapeRingsModel" "pieceSize" "[I" ∈ zt := zin_5 (List.mem_of_getElem? (i := 177) rfl) rfl
theorem k971 : Cond.fieldLink "TapeRingsModel" (182 : Nat) "TapeRingsModel" "pieceMany" "I" ∈ zt := zin_5 (List.mem_of_getElem? (i := 178) rfl) rfl
theorem k972 : Cond.fieldLink "TapeRingsModel" (69 : Nat) "TapeRingsModel" "versions" "[I" ∈ zt := zin_5 (List.mem_of_getElem? (i := 179) rfl) rfl
theorem k973 : Cond.fieldLink "TapeRingsModel" (72 : Nat) "TapeRingsModel" "versionSize" "[I" ∈ zt := zin_5 (List.mem_of_getElem? (i := 180) rfl) rfl
theorem k974 : Cond.fieldLink "TapeRingsModel" (75 : Nat) "TapeRingsModel" "versionRing" "[I" ∈ zt := zin_5 (List.mem_of_getElem? (i := 181) rfl) rfl
theorem k975 : Cond.fieldLink "TapeRingsModel" (78 : Nat) "TapeRingsModel" "versionDay" "[I" ∈ zt := zin_5 (List.mem_of_getElem? (i := 182) rfl) rfl
theorem k976 : Cond.fieldLink "TapeRingsModel" (185 : Nat) "TapeRingsModel" "versionMany" "I" ∈ zt := zin_5 (List.mem_of_getElem? (i := 183) rfl) rfl
theorem k977 : Cond.fieldLink "TapeRingsModel" (81 : Nat) "TapeRingsModel" "row" "[I" ∈ zt := zin_5 (List.mem_of_getElem? (i := 184) rfl) rfl
theorem k978 : Cond.fieldLink "TapeRingsModel" (188 : Nat) "TapeRingsModel" "rowMany" "I" ∈ zt := zin_5 (List.mem_of_getElem? (i := 185) rfl) rfl
theorem k979 : Cond.fieldLink "TapeRingsModel" (118 : Nat) "TapeRingsModel" "thrown" "I" ∈ zt := zin_5 (List.mem_of_getElem? (i := 186) rfl) rfl
theorem k980 : Cond.fieldLink "TapeRingsModel" (131 : Nat) "TapeRingsModel" "place" "I" ∈ zt := zin_5 (List.mem_of_getElem? (i := 187) rfl) rfl
theorem k981 : Cond.fieldLink "TapeRingsModel" (134 : Nat) "TapeRingsModel" "wrong" "I" ∈ zt := zin_5 (List.mem_of_getElem? (i := 188) rfl) rfl
theorem k982 : Cond.fieldLink "TapeRingsModel" (84 : Nat) "TapeRingsModel" "rowInches" "[I" ∈ zt := zin_5 (List.mem_of_getElem? (i := 189) rfl) rfl
theorem k983 : Cond.fieldLink "TapeRingsModel" (87 : Nat) "TapeRingsModel" "rowSize" "[I" ∈ zt := zin_5 (List.mem_of_getElem? (i := 190) rfl) rfl
theorem k984 : Cond.fieldLink "TapeRingsModel" (90 : Nat) "TapeRingsModel" "termInches" "[I" ∈ zt := zin_5 (List.mem_of_getElem? (i := 191) rfl) rfl
theorem k985 : Cond.fieldLink "TapeRingsModel" (93 : Nat) "TapeRingsModel" "termSize" "[I" ∈ zt := zin_5 (List.mem_of_getElem? (i := 192) rfl) rfl
theorem k986 : Cond.fieldLink "TapeRingsModel" (96 : Nat) "TapeRingsModel" "isHeard" "[Z" ∈ zt := zin_5 (List.mem_of_getElem? (i := 193) rfl) rfl
theorem k987 : Cond.fieldLink "TapeRingsModel" (100 : Nat) "TapeRingsModel" "rest" "[I" ∈ zt := zin_5 (List.mem_of_getElem? (i := 194) rfl) rfl
theorem k988 : Cond.fieldLink "TapeRingsModel" (103 : Nat) "TapeRingsModel" "trues" "[I" ∈ zt := zin_5 (List.mem_of_getElem? (i := 195) rfl) rfl
theorem k989 : Cond.fieldLink "TapeRingsModel" (106 : Nat) "TapeRingsModel" "outs" "[I" ∈ zt := zin_5 (List.mem_of_getElem? (i := 196) rfl) rfl
theorem k990 : Cond.fieldLink "TapeRingsModel" (109 : Nat) "TapeRingsModel" "joined" "[I" ∈ zt := zin_5 (List.mem_of_getElem? (i := 197) rfl) rfl
theorem k991 : Cond.fieldLink "TapeRingsModel" (112 : Nat) "TapeRingsModel" "best" "[I" ∈ zt := zin_5 (List.mem_of_getElem? (i := 198) rfl) rfl
theorem k992 : Cond.fieldLink "TapeRingsModel" (305 : Nat) "TapeRingsModel" "bestSize" "I" ∈ zt := zin_5 (List.mem_of_getElem? (i := 199) rfl) rfl
theorem k993 : Cond.fieldLink "TapeRingsModel" (115 : Nat) "TapeRingsModel" "edit" "[I" ∈ zt := zin_5 (List.mem_of_getElem? (i := 200) rfl) rfl
theorem k994 : Cond.laysFinal "TapeRingsModel" "TapeRingsModel" "text" "[B" ∈ zt := zin_5 (List.mem_of_getElem? (i := 201) rfl) rfl
theorem k995 : Cond.lays "TapeRingsModel" "TapeRingsModel" "size" "I" ∈ zt := zin_5 (List.mem_of_getElem? (i := 203) rfl) rfl
theorem k996 : Cond.laysFinal "TapeRingsModel" "TapeRingsModel" "hand" "[I" ∈ zt := zin_5 (List.mem_of_getElem? (i := 205) rfl) rfl
theorem k997 : Cond.lays "TapeRingsModel" "TapeRingsModel" "handMany" "I" ∈ zt := zin_5 (List.mem_of_getElem? (i := 207) rfl) rfl
theorem k998 : Cond.laysFinal "TapeRingsModel" "TapeRingsModel" "inches" "[I" ∈ zt := zin_5 (List.mem_of_getElem? (i := 209) rfl) rfl
theorem k999 : Cond.laysFinal "TapeRingsModel" "TapeRingsModel" "length" "[I" ∈ zt := zin_5 (List.mem_of_getElem? (i := 211) rfl) rfl
theorem k1000 : Cond.laysFinal "TapeRingsModel" "TapeRingsModel" "motorOf" "[I" ∈ zt := zin_5 (List.mem_of_getElem? (i := 213) rfl) rfl
theorem k1001 : Cond.laysFinal "TapeRingsModel" "TapeRingsModel" "start" "[I" ∈ zt := zin_5 (List.mem_of_getElem? (i := 215) rfl) rfl
theorem k1002 : Cond.laysFinal "TapeRingsModel" "TapeRingsModel" "heads" "[I" ∈ zt := zin_5 (List.mem_of_getElem? (i := 217) rfl) rfl
theorem k1003 : Cond.laysFinal "TapeRingsModel" "TapeRingsModel" "wish" "[I" ∈ zt := zin_5 (List.mem_of_getElem? (i := 219) rfl) rfl
theorem k1004 : Cond.lays "TapeRingsModel" "TapeRingsModel" "rings" "I" ∈ zt := zin_5 (List.mem_of_getElem? (i := 221) rfl) rfl
theorem k1005 : Cond.laysFinal "TapeRingsModel" "TapeRingsModel" "ticks" "[I" ∈ zt := zin_5 (List.mem_of_getElem? (i := 223) rfl) rfl
theorem k1006 : Cond.laysFinal "TapeRingsModel" "TapeRingsModel" "speeds" "[I" ∈ zt := zin_5 (List.mem_of_getElem? (i := 225) rfl) rfl
theorem k1007 : Cond.laysFinal "TapeRingsModel" "TapeRingsModel" "toldMany" "[I" ∈ zt := zin_5 (List.mem_of_getElem? (i := 227) rfl) rfl
theorem k1008 : Cond.laysFinal "TapeRingsModel" "TapeRingsModel" "markTick" "[I" ∈ zt := zin_5 (List.mem_of_getElem? (i := 229) rfl) rfl
theorem k1009 : Cond.laysFinal "TapeRingsModel" "TapeRingsModel" "markSound" "[I" ∈ zt := zin_5 (List.mem_of_getElem? (i := 231) rfl) rfl
theorem k1010 : Cond.lays "TapeRingsModel" "TapeRingsModel" "marks" "I" ∈ zt := zin_5 (List.mem_of_getElem? (i := 233) rfl) rfl
theorem k1011 : Cond.laysFinal "TapeRingsModel" "TapeRingsModel" "weights" "[I" ∈ zt := zin_5 (List.mem_of_getElem? (i := 235) rfl) rfl
theorem k1012 : Cond.lays "TapeRingsModel" "TapeRingsModel" "d" "I" ∈ zt := zin_5 (List.mem_of_getElem? (i := 237) rfl) rfl
theorem k1013 : Cond.lays "TapeRingsModel" "TapeRingsModel" "a" "I" ∈ zt := zin_5 (List.mem_of_getElem? (i := 239) rfl) rfl
theorem k1014 : Cond.lays "TapeRingsModel" "TapeRingsModel" "e" "I" ∈ zt := zin_6 (List.mem_of_getElem? (i := 1) rfl) rfl
theorem k1015 : Cond.lays "TapeRingsModel" "TapeRingsModel" "b" "I" ∈ zt := zin_6 (List.mem_of_getElem? (i := 3) rfl) rfl
theorem k1016 : Cond.lays "TapeRingsModel" "TapeRingsModel" "stop" "I" ∈ zt := zin_6 (List.mem_of_getElem? (i := 5) rfl) rfl
theorem k1017 : Cond.laysFinal "TapeRingsModel" "TapeRingsModel" "tape" "[I" ∈ zt := zin_6 (List.mem_of_getElem? (i := 7) rfl) rfl
theorem k1018 : Cond.lays "TapeRingsModel" "TapeRingsModel" "taped" "I" ∈ zt := zin_6 (List.mem_of_getElem? (i := 9) rfl) rfl
theorem k1019 : Cond.laysFinal "TapeRingsModel" "TapeRingsModel" "pieces" "[I" ∈ zt := zin_6 (List.mem_of_getElem? (i := 11) rfl) rfl
theorem k1020 : Cond.laysFinal "TapeRingsModel" "TapeRingsModel" "pieceSize" "[I" ∈ zt := zin_6 (List.mem_of_getElem? (i := 13) rfl) rfl
theorem k1021 : Cond.lays "TapeRingsModel" "TapeRingsModel" "pieceMany" "I" ∈ zt := zin_6 (List.mem_of_getElem? (i := 15) rfl) rfl
theorem k1022 : Cond.laysFinal "TapeRingsModel" "TapeRingsModel" "versions" "[I" ∈ zt := zin_6 (List.mem_of_getElem? (i := 17) rfl) rfl
theorem k1023 : Cond.laysFinal "TapeRingsModel" "TapeRingsModel" "versionSize" "[I" ∈ zt := zin_6 (List.mem_of_getElem? (i := 19) rfl) rfl
theorem k1024 : Cond.laysFinal "TapeRingsModel" "TapeRingsModel" "versionRing" "[I" ∈ zt := zin_6 (List.mem_of_getElem? (i := 21) rfl) rfl
theorem k1025 : Cond.laysFinal "TapeRingsModel" "TapeRingsModel" "versionDay" "[I" ∈ zt := zin_6 (List.mem_of_getElem? (i := 23) rfl) rfl
theorem k1026 : Cond.lays "TapeRingsModel" "TapeRingsModel" "versionMany" "I" ∈ zt := zin_6 (List.mem_of_getElem? (i := 25) rfl) rfl
theorem k1027 : Cond.laysFinal "TapeRingsModel" "TapeRingsModel" "row" "[I" ∈ zt := zin_6 (List.mem_of_getElem? (i := 27) rfl) rfl
theorem k1028 : Cond.lays "TapeRingsModel" "TapeRingsModel" "rowMany" "I" ∈ zt := zin_6 (List.mem_of_getElem? (i := 29) rfl) rfl
theorem k1029 : Cond.lays "TapeRingsModel" "TapeRingsModel" "thrown" "I" ∈ zt := zin_6 (List.mem_of_getElem? (i := 31) rfl) rfl
theorem k1030 : Cond.lays "TapeRingsModel" "TapeRingsModel" "place" "I" ∈ zt := zin_6 (List.mem_of_getElem? (i := 33) rfl) rfl
theorem k1031 : Cond.lays "TapeRingsModel" "TapeRingsModel" "wrong" "I" ∈ zt := zin_6 (List.mem_of_getElem? (i := 35) rfl) rfl
theorem k1032 : Cond.laysFinal "TapeRingsModel" "TapeRingsModel" "rowInches" "[I" ∈ zt := zin_6 (List.mem_of_getElem? (i := 37) rfl) rfl
theorem k1033 : Cond.laysFinal "TapeRingsModel" "TapeRingsModel" "rowSize" "[I" ∈ zt := zin_6 (List.mem_of_getElem? (i := 39) rfl) rfl
theorem k1034 : Cond.laysFinal "TapeRingsModel" "TapeRingsModel" "termInches" "[I" ∈ zt := zin_6 (List.mem_of_getElem? (i := 41) rfl) rfl
theorem k1035 : Cond.laysFinal "TapeRingsModel" "TapeRingsModel" "termSize" "[I" ∈ zt := zin_6 (List.mem_of_getElem? (i := 43) rfl) rfl
theorem k1036 : Cond.laysFinal "TapeRingsModel" "TapeRingsModel" "isHeard" "[Z" ∈ zt := zin_6 (List.mem_of_getElem? (i := 45) rfl) rfl
theorem k1037 : Cond.laysFinal "TapeRingsModel" "TapeRingsModel" "rest" "[I" ∈ zt := zin_6 (List.mem_of_getElem? (i := 47) rfl) rfl
theorem k1038 : Cond.laysFinal "TapeRingsModel" "TapeRingsModel" "trues" "[I" ∈ zt := zin_6 (List.mem_of_getElem? (i := 49) rfl) rfl
theorem k1039 : Cond.laysFinal "TapeRingsModel" "TapeRingsModel" "outs" "[I" ∈ zt := zin_6 (List.mem_of_getElem? (i := 51) rfl) rfl
theorem k1040 : Cond.laysFinal "TapeRingsModel" "TapeRingsModel" "joined" "[I" ∈ zt := zin_6 (List.mem_of_getElem? (i := 53) rfl) rfl
theorem k1041 : Cond.laysFinal "TapeRingsModel" "TapeRingsModel" "best" "[I" ∈ zt := zin_6 (List.mem_of_getElem? (i := 55) rfl) rfl
theorem k1042 : Cond.lays "TapeRingsModel" "TapeRingsModel" "bestSize" "I" ∈ zt := zin_6 (List.mem_of_getElem? (i := 57) rfl) rfl
theorem k1043 : Cond.laysFinal "TapeRingsModel" "TapeRingsModel" "edit" "[I" ∈ zt := zin_6 (List.mem_of_getElem? (i := 59) rfl) rfl
theorem k1044 : Cond.arrayClass FieldType.byte ∈ zt := zin_6 (List.mem_of_getElem? (i := 62) rfl) rfl
theorem k1045 : Cond.arrayClass FieldType.boolean ∈ zt := zin_6 (List.mem_of_getElem? (i := 63) rfl) rfl
theorem k1046 : Cond.methodLink "TapeRingsLaw" (30 : Nat) yX12_sign ∈ zt := zin_6 (List.mem_of_getElem? (i := 64) rfl) rfl
theorem k1047 : Cond.instanceMethod yX12_sign ∈ zt := zin_6 (List.mem_of_getElem? (i := 65) rfl) rfl
theorem k1048 : Cond.selects "TapeRingsModel" yX12_sign yX12_sign ∈ zt := zin_6 (List.mem_of_getElem? (i := 66) rfl) rfl
theorem k1049 : Cond.code yX12_sign prog_14_method_7_code (2 : Nat) (Option.some FieldType.int) ∈ zt := zin_6 (List.mem_of_getElem? (i := 67) rfl) rfl
theorem k1050 : Cond.methodLink "TapeRingsLaw" (35 : Nat) yX12_end ∈ zt := zin_6 (List.mem_of_getElem? (i := 68) rfl) rfl
theorem k1051 : Cond.instanceMethod yX12_end ∈ zt := zin_6 (List.mem_of_getElem? (i := 69) rfl) rfl
theorem k1052 : Cond.selects "TapeRingsModel" yX12_end yX12_end ∈ zt := zin_6 (List.mem_of_getElem? (i := 70) rfl) rfl
theorem k1053 : Cond.code yX12_end prog_14_method_8_code (2 : Nat) (Option.some FieldType.boolean) ∈ zt := zin_6 (List.mem_of_getElem? (i := 71) rfl) rfl
theorem k1054 : Cond.methodLink "TapeRingsLaw" (40 : Nat) yX12_splice ∈ zt := zin_6 (List.mem_of_getElem? (i := 72) rfl) rfl
theorem k1055 : Cond.instanceMethod yX12_splice ∈ zt := zin_6 (List.mem_of_getElem? (i := 73) rfl) rfl
theorem k1056 : Cond.selects "TapeRingsModel" yX12_splice yX12_splice ∈ zt := zin_6 (List.mem_of_getElem? (i := 74) rfl) rfl
theorem k1057 : Cond.code yX12_splice prog_14_method_16_code (4 : Nat) (Option.some FieldType.int) ∈ zt := zin_6 (List.mem_of_getElem? (i := 75) rfl) rfl
theorem k1058 : Cond.methodLink "TapeRingsModel" (152 : Nat) yX12_skipRow ∈ zt := zin_6 (List.mem_of_getElem? (i := 76) rfl) rfl
theorem k1059 : Cond.instanceMethod yX12_skipRow ∈ zt := zin_6 (List.mem_of_getElem? (i := 78) rfl) rfl
theorem k1060 : Cond.code yX12_skipRow prog_14_method_11_code (2 : Nat) (Option.some FieldType.boolean) ∈ zt := zin_6 (List.mem_of_getElem? (i := 79) rfl) rfl
theorem k1061 : Cond.methodLink "TapeRingsModel" (137 : Nat) yX12_skipTerm ∈ zt := zin_6 (List.mem_of_getElem? (i := 80) rfl) rfl
theorem k1062 : Cond.instanceMethod yX12_skipTerm ∈ zt := zin_6 (List.mem_of_getElem? (i := 82) rfl) rfl
theorem k1063 : Cond.code yX12_skipTerm prog_14_method_12_code (2 : Nat) (Option.some FieldType.boolean) ∈ zt := zin_6 (List.mem_of_getElem? (i := 83) rfl) rfl
theorem k1064 : Cond.methodLink "TapeRingsModel" (149 : Nat) yX12_skipAtom ∈ zt := zin_6 (List.mem_of_getElem? (i := 84) rfl) rfl
theorem k1065 : Cond.instanceMethod yX12_skipAtom ∈ zt := zin_6 (List.mem_of_getElem? (i := 86) rfl) rfl
theorem k1066 : Cond.code yX12_skipAtom prog_14_method_13_code (2 : Nat) (Option.some FieldType.boolean) ∈ zt := zin_6 (List.mem_of_getElem? (i := 87) rfl) rfl
theorem k1067 : Cond.methodLink "TapeRingsModel" (141 : Nat) yX12_has ∈ zt := zin_6 (List.mem_of_getElem? (i := 88) rfl) rfl
theorem k1068 : Cond.instanceMethod yX12_has ∈ zt := zin_6 (List.mem_of_getElem? (i := 90) rfl) rfl
theorem k1069 : Cond.code yX12_has prog_14_method_9_code (3 : Nat) (Option.some FieldType.boolean) ∈ zt := zin_6 (List.mem_of_getElem? (i := 91) rfl) rfl
theorem k1070 : Cond.methodLink "TapeRingsModel" (145 : Nat) yX12_isWrong ∈ zt := zin_6 (List.mem_of_getElem? (i := 92) rfl) rfl
theorem k1071 : Cond.instanceMethod yX12_isWrong ∈ zt := zin_6 (List.mem_of_getElem? (i := 94) rfl) rfl
theorem k1072 : Cond.code yX12_isWrong prog_14_method_10_code (1 : Nat) (Option.some FieldType.boolean) ∈ zt := zin_6 (List.mem_of_getElem? (i := 95) rfl) rfl
theorem k1073 : Cond.methodLink "TapeRingsModel" (159 : Nat) yX12_makeRow ∈ zt := zin_6 (List.mem_of_getElem? (i := 96) rfl) rfl
theorem k1074 : Cond.instanceMethod yX12_makeRow ∈ zt := zin_6 (List.mem_of_getElem? (i := 98) rfl) rfl
theorem k1075 : Cond.code yX12_makeRow prog_14_method_14_code (7 : Nat) (Option.some FieldType.int) ∈ zt := zin_6 (List.mem_of_getElem? (i := 99) rfl) rfl
theorem k1076 : Cond.methodLink "TapeRingsModel" (155 : Nat) yX12_makeTerm ∈ zt := zin_6 (List.mem_of_getElem? (i := 100) rfl) rfl
theorem k1077 : Cond.instanceMethod yX12_makeTerm ∈ zt := zin_6 (List.mem_of_getElem? (i := 102) rfl) rfl
theorem k1078 : Cond.code yX12_makeTerm prog_14_method_15_code (6 : Nat) (Option.some FieldType.int) ∈ zt := zin_6 (List.mem_of_getElem? (i := 103) rfl) rfl
theorem k1079 : Cond.methodLink "TapeRingsLaw" (44 : Nat) yX12_hand ∈ zt := zin_6 (List.mem_of_getElem? (i := 104) rfl) rfl
theorem k1080 : Cond.instanceMethod yX12_hand ∈ zt := zin_6 (List.mem_of_getElem? (i := 105) rfl) rfl
theorem k1081 : Cond.selects "TapeRingsModel" yX12_hand yX12_hand ∈ zt := zin_6 (List.mem_of_getElem? (i := 106) rfl) rfl
theorem k1082 : Cond.code yX12_hand prog_14_method_17_code (2 : Nat) (Option.some FieldType.int) ∈ zt := zin_6 (List.mem_of_getElem? (i := 107) rfl) rfl
theorem k1083 : Cond.methodLink "TapeRingsModel" (124 : Nat) yX12_in ∈ zt := zin_6 (List.mem_of_getElem? (i := 108) rfl) rfl
theorem k1084 : Cond.static yX12_in ∈ zt := zin_6 (List.mem_of_getElem? (i := 109) rfl) rfl
theorem k1085 : Cond.code yX12_in prog_14_method_3_code (3 : Nat) (Option.some FieldType.boolean) ∈ zt := zin_6 (List.mem_of_getElem? (i := 110) rfl) rfl
theorem k1086 : Cond.methodLink "TapeRingsLaw" (48 : Nat) yX12_ring ∈ zt := zin_6 (List.mem_of_getElem? (i := 111) rfl) rfl
theorem k1087 : Cond.instanceMethod yX12_ring ∈ zt := zin_6 (List.mem_of_getElem? (i := 112) rfl) rfl
theorem k1088 : Cond.selects "TapeRingsModel" yX12_ring yX12_ring ∈ zt := zin_6 (List.mem_of_getElem? (i := 113) rfl) rfl
theorem k1089 : Cond.code yX12_ring prog_14_method_18_code (4 : Nat) (Option.some FieldType.int) ∈ zt := zin_6 (List.mem_of_getElem? (i := 114) rfl) rfl
theorem k1090 : Cond.methodLink "TapeRingsModel" (165 : Nat) yX12_isMotor ∈ zt := zin_6 (List.mem_of_getElem? (i := 115) rfl) rfl
theorem k1091 : Cond.static yX12_isMotor ∈ zt := zin_6 (List.mem_of_getElem? (i := 116) rfl) rfl
theorem k1092 : Cond.code yX12_isMotor prog_14_method_6_code (1 : Nat) (Option.some FieldType.boolean) ∈ zt := zin_6 (List.mem_of_getElem? (i := 117) rfl) rfl
theorem k1093 : Cond.methodLink "TapeRingsLaw" (53 : Nat) yX12_over ∈ zt := zin_6 (List.mem_of_getElem? (i := 118) rfl) rfl
theorem k1094 : Cond.instanceMethod yX12_over ∈ zt := zin_6 (List.mem_of_getElem? (i := 119) rfl) rfl
theorem k1095 : Cond.selects "TapeRingsModel" yX12_over yX12_over ∈ zt := zin_6 (List.mem_of_getElem? (i := 120) rfl) rfl
theorem k1096 : Cond.code yX12_over prog_14_method_19_code (8 : Nat) (Option.some FieldType.int) ∈ zt := zin_6 (List.mem_of_getElem? (i := 121) rfl) rfl
theorem k1097 : Cond.methodLink "TapeRingsModel" (168 : Nat) yX12_isRing ∈ zt := zin_6 (List.mem_of_getElem? (i := 122) rfl) rfl
theorem k1098 : Cond.instanceMethod yX12_isRing ∈ zt := zin_6 (List.mem_of_getElem? (i := 124) rfl) rfl
theorem k1099 : Cond.code yX12_isRing prog_14_method_5_code (2 : Nat) (Option.some FieldType.boolean) ∈ zt := zin_6 (List.mem_of_getElem? (i := 125) rfl) rfl
theorem k1100 : Cond.methodLink "TapeRingsLaw" (57 : Nat) yX12_set ∈ zt := zin_6 (List.mem_of_getElem? (i := 126) rfl) rfl
theorem k1101 : Cond.instanceMethod yX12_set ∈ zt := zin_6 (List.mem_of_getElem? (i := 127) rfl) rfl
theorem k1102 : Cond.selects "TapeRingsModel" yX12_set yX12_set ∈ zt := zin_6 (List.mem_of_getElem? (i := 128) rfl) rfl
theorem k1103 : Cond.code yX12_set prog_14_method_20_code (5 : Nat) (Option.some FieldType.int) ∈ zt := zin_6 (List.mem_of_getElem? (i := 129) rfl) rfl
theorem k1104 : Cond.methodLink "TapeRingsLaw" (62 : Nat) yX12_head ∈ zt := zin_6 (List.mem_of_getElem? (i := 130) rfl) rfl
theorem k1105 : Cond.instanceMethod yX12_head ∈ zt := zin_6 (List.mem_of_getElem? (i := 131) rfl) rfl
theorem k1106 : Cond.selects "TapeRingsModel" yX12_head yX12_head ∈ zt := zin_6 (List.mem_of_getElem? (i := 132) rfl) rfl
theorem k1107 : Cond.code yX12_head prog_14_method_21_code (5 : Nat) (Option.some FieldType.int) ∈ zt := zin_6 (List.mem_of_getElem? (i := 133) rfl) rfl
theorem k1108 : Cond.methodLink "TapeRingsModel" (171 : Nat) yJ6_bitCount_0f7a4 ∈ zt := zin_6 (List.mem_of_getElem? (i := 134) rfl) rfl
theorem k1109 : Cond.methodLink "TapeRingsLaw" (67 : Nat) yX12_motor ∈ zt := zin_6 (List.mem_of_getElem? (i := 135) rfl) rfl
theorem k1110 : Cond.instanceMethod yX12_motor ∈ zt := zin_6 (List.mem_of_getElem? (i := 136) rfl) rfl
theorem k1111 : Cond.selects "TapeRingsModel" yX12_motor yX12_motor ∈ zt := zin_6 (List.mem_of_getElem? (i := 137) rfl) rfl
theorem k1112 : Cond.code yX12_motor prog_14_method_22_code (7 : Nat) (Option.some FieldType.boolean) ∈ zt := zin_6 (List.mem_of_getElem? (i := 138) rfl) rfl
theorem k1113 : Cond.methodLink "TapeRingsLaw" (71 : Nat) yX12_clear ∈ zt := zin_6 (List.mem_of_getElem? (i := 139) rfl) rfl
theorem k1114 : Cond.instanceMethod yX12_clear ∈ zt := zin_6 (List.mem_of_getElem? (i := 140) rfl) rfl
theorem k1115 : Cond.selects "TapeRingsModel" yX12_clear yX12_clear ∈ zt := zin_6 (List.mem_of_getElem? (i := 141) rfl) rfl
theorem k1116 : Cond.code yX12_clear prog_14_method_23_code (3 : Nat) (Option.some FieldType.int) ∈ zt := zin_6 (List.mem_of_getElem? (i := 142) rfl) rfl
theorem k1117 : Cond.methodLink "TapeRingsLaw" (75 : Nat) yX12_count ∈ zt := zin_6 (List.mem_of_getElem? (i := 143) rfl) rfl
theorem k1118 : Cond.instanceMethod yX12_count ∈ zt := zin_6 (List.mem_of_getElem? (i := 144) rfl) rfl
theorem k1119 : Cond.selects "TapeRingsModel" yX12_count yX12_count ∈ zt := zin_6 (List.mem_of_getElem? (i := 145) rfl) rfl
theorem k1120 : Cond.code yX12_count prog_14_method_24_code (2 : Nat) (Option.some FieldType.int) ∈ zt := zin_6 (List.mem_of_getElem? (i := 146) rfl) rfl
theorem k1121 : Cond.methodLink "TapeRingsLaw" (81 : Nat) yX12_of ∈ zt := zin_6 (List.mem_of_getElem? (i := 147) rfl) rfl
theorem k1122 : Cond.instanceMethod yX12_of ∈ zt := zin_6 (List.mem_of_getElem? (i := 148) rfl) rfl
theorem k1123 : Cond.selects "TapeRingsModel" yX12_of yX12_of ∈ zt := zin_6 (List.mem_of_getElem? (i := 149) rfl) rfl
theorem k1124 : Cond.code yX12_of prog_14_method_29_code (3 : Nat) (Option.some FieldType.int) ∈ zt := zin_6 (List.mem_of_getElem? (i := 150) rfl) rfl
theorem k1125 : Cond.methodLink "TapeRingsModel" (203 : Nat) yX12_round ∈ zt := zin_6 (List.mem_of_getElem? (i := 151) rfl) rfl
theorem k1126 : Cond.instanceMethod yX12_round ∈ zt := zin_6 (List.mem_of_getElem? (i := 153) rfl) rfl
theorem k1127 : Cond.code yX12_round prog_14_method_28_code (2 : Nat) (Option.some FieldType.int) ∈ zt := zin_6 (List.mem_of_getElem? (i := 154) rfl) rfl
theorem k1128 : Cond.methodLink "TapeRingsModel" (195 : Nat) yX12_lastSpeed ∈ zt := zin_6 (List.mem_of_getElem? (i := 155) rfl) rfl
theorem k1129 : Cond.instanceMethod yX12_lastSpeed ∈ zt := zin_6 (List.mem_of_getElem? (i := 157) rfl) rfl
theorem k1130 : Cond.code yX12_lastSpeed prog_14_method_27_code (2 : Nat) (Option.some FieldType.int) ∈ zt := zin_6 (List.mem_of_getElem? (i := 158) rfl) rfl
theorem k1131 : Cond.methodLink "TapeRingsModel" (198 : Nat) yJ9_abs_0f7a4 ∈ zt := zin_6 (List.mem_of_getElem? (i := 159) rfl) rfl
theorem k1132 : Cond.methodLink "TapeRingsModel" (191 : Nat) yX12_common ∈ zt := zin_6 (List.mem_of_getElem? (i := 160) rfl) rfl
theorem k1133 : Cond.static yX12_common ∈ zt := zin_6 (List.mem_of_getElem? (i := 161) rfl) rfl
theorem k1134 : Cond.code yX12_common prog_14_method_25_code (2 : Nat) (Option.some FieldType.int) ∈ zt := zin_6 (List.mem_of_getElem? (i := 162) rfl) rfl
theorem k1135 : Cond.methodLink "TapeRingsLaw" (85 : Nat) yX12_inch ∈ zt := zin_6 (List.mem_of_getElem? (i := 163) rfl) rfl
theorem k1136 : Cond.instanceMethod yX12_inch ∈ zt := zin_6 (List.mem_of_getElem? (i := 164) rfl) rfl
theorem k1137 : Cond.selects "TapeRingsModel" yX12_inch yX12_inch ∈ zt := zin_6 (List.mem_of_getElem? (i := 165) rfl) rfl
theorem k1138 : Cond.code yX12_inch prog_14_method_30_code (3 : Nat) (Option.some FieldType.int) ∈ zt := zin_6 (List.mem_of_getElem? (i := 166) rfl) rfl
theorem k1139 : Cond.methodLink "TapeRingsLaw" (88 : Nat) yX12_way ∈ zt := zin_6 (List.mem_of_getElem? (i := 167) rfl) rfl
theorem k1140 : Cond.instanceMethod yX12_way ∈ zt := zin_6 (List.mem_of_getElem? (i := 168) rfl) rfl
theorem k1141 : Cond.selects "TapeRingsModel" yX12_way yX12_way ∈ zt := zin_6 (List.mem_of_getElem? (i := 169) rfl) rfl
theorem k1142 : Cond.code yX12_way prog_14_method_32_code (3 : Nat) (Option.some FieldType.long) ∈ zt := zin_6 (List.mem_of_getElem? (i := 170) rfl) rfl
theorem k1143 : Cond.constant "TapeRingsModel" (206 : Nat) (1000000000 : Int32) ∈ zt := zin_6 (List.mem_of_getElem? (i := 171) rfl) rfl
theorem k1144 : Cond.methodLink "TapeRingsModel" (207 : Nat) yX12_wayEarly ∈ zt := zin_6 (List.mem_of_getElem? (i := 172) rfl) rfl
theorem k1145 : Cond.instanceMethod yX12_wayEarly ∈ zt := zin_6 (List.mem_of_getElem? (i := 174) rfl) rfl
theorem k1146 : Cond.code yX12_wayEarly prog_14_method_31_code (10 : Nat) (Option.some FieldType.long) ∈ zt := zin_6 (List.mem_of_getElem? (i := 175) rfl) rfl
theorem k1147 : Cond.methodLink "TapeRingsLaw" (95 : Nat) yX12_heard ∈ zt := zin_6 (List.mem_of_getElem? (i := 176) rfl) rfl
theorem k1148 : Cond.instanceMethod yX12_heard ∈ zt := zin_6 (List.mem_of_getElem? (i := 177) rfl) rfl
theorem k1149 : Cond.selects "TapeRingsModel" yX12_heard yX12_heard ∈ zt := zin_6 (List.mem_of_getElem? (i := 178) rfl) rfl
theorem k1150 : Cond.code yX12_heard prog_14_method_37_code (4 : Nat) (Option.some FieldType.int) ∈ zt := zin_6 (List.mem_of_getElem? (i := 179) rfl) rfl
theorem k1151 : Cond.methodLink "TapeRingsModel" (229 : Nat) yX12_heardInAll ∈ zt := zin_6 (List.mem_of_getElem? (i := 180) rfl) rfl
theorem k1152 : Cond.instanceMethod yX12_heardInAll ∈ zt := zin_6 (List.mem_of_getElem? (i := 182) rfl) rfl
theorem k1153 : Cond.code yX12_heardInAll prog_14_method_36_code (5 : Nat) (Option.some FieldType.int) ∈ zt := zin_6 (List.mem_of_getElem? (i := 183) rfl) rfl
theorem k1154 : Cond.methodLink "TapeRingsModel" (225 : Nat) yX12_heardOf ∈ zt := zin_6 (List.mem_of_getElem? (i := 184) rfl) rfl
theorem k1155 : Cond.instanceMethod yX12_heardOf ∈ zt := zin_6 (List.mem_of_getElem? (i := 186) rfl) rfl
theorem k1156 : Cond.code yX12_heardOf prog_14_method_35_code (4 : Nat) (Option.some FieldType.int) ∈ zt := zin_6 (List.mem_of_getElem? (i := 187) rfl) rfl
theorem k1157 : Cond.methodLink "TapeRingsModel" (218 : Nat) yX12_wayBy ∈ zt := zin_6 (List.mem_of_getElem? (i := 188) rfl) rfl
theorem k1158 : Cond.instanceMethod yX12_wayBy ∈ zt := zin_6 (List.mem_of_getElem? (i := 190) rfl) rfl
theorem k1159 : Cond.code yX12_wayBy prog_14_method_33_code (9 : Nat) (Option.some FieldType.int) ∈ zt := zin_6 (List.mem_of_getElem? (i := 191) rfl) rfl
theorem k1160 : Cond.methodLink "TapeRingsModel" (211 : Nat) yX12_steady ∈ zt := zin_6 (List.mem_of_getElem? (i := 192) rfl) rfl
theorem k1161 : Cond.instanceMethod yX12_steady ∈ zt := zin_6 (List.mem_of_getElem? (i := 194) rfl) rfl
theorem k1162 : Cond.code yX12_steady prog_14_method_26_code (2 : Nat) (Option.some FieldType.int) ∈ zt := zin_6 (List.mem_of_getElem? (i := 195) rfl) rfl
theorem k1163 : Cond.methodLink "TapeRingsModel" (214 : Nat) yJ9_floorMod_f86c9 ∈ zt := zin_6 (List.mem_of_getElem? (i := 196) rfl) rfl
theorem k1164 : Cond.static yJ9_floorMod_f86c9 ∈ zt := zin_6 (List.mem_of_getElem? (i := 197) rfl) rfl
theorem k1165 : Cond.code yJ9_floorMod_f86c9 prog_18_method_52_code (6 : Nat) (Option.some FieldType.long) ∈ zt := zin_6 (List.mem_of_getElem? (i := 198) rfl) rfl
theorem k1166 : Cond.methodLink "TapeRingsModel" (222 : Nat) yX12_heardAt ∈ zt := zin_6 (List.mem_of_getElem? (i := 199) rfl) rfl
theorem k1167 : Cond.instanceMethod yX12_heardAt ∈ zt := zin_6 (List.mem_of_getElem? (i := 201) rfl) rfl
theorem k1168 : Cond.code yX12_heardAt prog_14_method_34_code (5 : Nat) (Option.some FieldType.int) ∈ zt := zin_6 (List.mem_of_getElem? (i := 202) rfl) rfl
theorem k1169 : Cond.methodLink "TapeRingsLaw" (100 : Nat) yX12_all ∈ zt := zin_6 (List.mem_of_getElem? (i := 203) rfl) rfl
theorem k1170 : Cond.instanceMethod yX12_all ∈ zt := zin_6 (List.mem_of_getElem? (i := 204) rfl) rfl
theorem k1171 : Cond.selects "TapeRingsModel" yX12_all yX12_all ∈ zt := zin_6 (List.mem_of_getElem? (i := 205) rfl) rfl
theorem k1172 : Cond.code yX12_all prog_14_method_39_code (1 : Nat) (Option.some FieldType.long) ∈ zt := zin_6 (List.mem_of_getElem? (i := 206) rfl) rfl
theorem k1173 : Cond.methodLink "TapeRingsModel" (233 : Nat) yX12_allRounds ∈ zt := zin_6 (List.mem_of_getElem? (i := 207) rfl) rfl
theorem k1174 : Cond.instanceMethod yX12_allRounds ∈ zt := zin_6 (List.mem_of_getElem? (i := 209) rfl) rfl
theorem k1175 : Cond.code yX12_allRounds prog_14_method_38_code (5 : Nat) (Option.some FieldType.long) ∈ zt := zin_6 (List.mem_of_getElem? (i := 210) rfl) rfl
theorem k1176 : Cond.methodLink "TapeRingsLaw" (105 : Nat) yX12_wish ∈ zt := zin_6 (List.mem_of_getElem? (i := 211) rfl) rfl
theorem k1177 : Cond.instanceMethod yX12_wish ∈ zt := zin_6 (List.mem_of_getElem? (i := 212) rfl) rfl
theorem k1178 : Cond.selects "TapeRingsModel" yX12_wish yX12_wish ∈ zt := zin_6 (List.mem_of_getElem? (i := 213) rfl) rfl
theorem k1179 : Cond.code yX12_wish prog_14_method_40_code (3 : Nat) (Option.some FieldType.boolean) ∈ zt := zin_6 (List.mem_of_getElem? (i := 214) rfl) rfl
theorem k1180 : Cond.methodLink "TapeRingsModel" (237 : Nat) yX12_areSounds ∈ zt := zin_6 (List.mem_of_getElem? (i := 215) rfl) rfl
theorem k1181 : Cond.static yX12_areSounds ∈ zt := zin_6 (List.mem_of_getElem? (i := 216) rfl) rfl
theorem k1182 : Cond.code yX12_areSounds prog_14_method_4_code (1 : Nat) (Option.some FieldType.boolean) ∈ zt := zin_6 (List.mem_of_getElem? (i := 217) rfl) rfl
theorem k1183 : Cond.methodLink "TapeRingsLaw" (110 : Nat) yX12_meets ∈ zt := zin_6 (List.mem_of_getElem? (i := 218) rfl) rfl
theorem k1184 : Cond.instanceMethod yX12_meets ∈ zt := zin_6 (List.mem_of_getElem? (i := 219) rfl) rfl
theorem k1185 : Cond.selects "TapeRingsModel" yX12_meets yX12_meets ∈ zt := zin_6 (List.mem_of_getElem? (i := 220) rfl) rfl
theorem k1186 : Cond.code yX12_meets prog_14_method_45_code (7 : Nat) (Option.some FieldType.long) ∈ zt := zin_6 (List.mem_of_getElem? (i := 221) rfl) rfl
theorem k1187 : Cond.constantLong "TapeRingsModel" (243 : Nat) (1152921504606846976 : Int64) ∈ zt := zin_6 (List.mem_of_getElem? (i := 222) rfl) rfl
theorem k1188 : Cond.constantLong "TapeRingsModel" (245 : Nat) (-1 : Int64) ∈ zt := zin_6 (List.mem_of_getElem? (i := 223) rfl) rfl
theorem k1189 : Cond.methodLink "TapeRingsModel" (247 : Nat) yX12_steadyAll ∈ zt := zin_6 (List.mem_of_getElem? (i := 224) rfl) rfl
theorem k1190 : Cond.instanceMethod yX12_steadyAll ∈ zt := zin_6 (List.mem_of_getElem? (i := 226) rfl) rfl
theorem k1191 : Cond.code yX12_steadyAll prog_14_method_42_code (1 : Nat) (Option.some FieldType.int) ∈ zt := zin_6 (List.mem_of_getElem? (i := 227) rfl) rfl
theorem k1192 : Cond.methodLink "TapeRingsModel" (240 : Nat) yJ9_max_7cf53 ∈ zt := zin_6 (List.mem_of_getElem? (i := 228) rfl) rfl
theorem k1193 : Cond.methodLink "TapeRingsModel" (251 : Nat) yX12_meetsAt ∈ zt := zin_6 (List.mem_of_getElem? (i := 229) rfl) rfl
theorem k1194 : Cond.instanceMethod yX12_meetsAt ∈ zt := zin_6 (List.mem_of_getElem? (i := 231) rfl) rfl
theorem k1195 : Cond.code yX12_meetsAt prog_14_method_41_code (4 : Nat) (Option.some FieldType.boolean) ∈ zt := zin_6 (List.mem_of_getElem? (i := 232) rfl) rfl
theorem k1196 : Cond.methodLink "TapeRingsModel" (255 : Nat) yX12_findHeard ∈ zt := zin_6 (List.mem_of_getElem? (i := 233) rfl) rfl
theorem k1197 : Cond.instanceMethod yX12_findHeard ∈ zt := zin_6 (List.mem_of_getElem? (i := 235) rfl) rfl
theorem k1198 : Cond.code yX12_findHeard prog_14_method_43_code (5 : Nat) (Option.none : Option FieldType) ∈ zt := zin_6 (List.mem_of_getElem? (i := 236) rfl) rfl
theorem k1199 : Cond.methodLink "TapeRingsModel" (259 : Nat) yX12_meetsBehind ∈ zt := zin_6 (List.mem_of_getElem? (i := 237) rfl) rfl
theorem k1200 : Cond.instanceMethod yX12_meetsBehind ∈ zt := zin_6 (List.mem_of_getElem? (i := 239) rfl) rfl
theorem k1201 : Cond.code yX12_meetsBehind prog_14_method_44_code (3 : Nat) (Option.some FieldType.boolean) ∈ zt := zin_7 (List.mem_of_getElem? (i := 0) rfl) rfl
theorem k1202 : Cond.methodLink "TapeRingsLaw" (114 : Nat) yX12_often ∈ zt := zin_7 (List.mem_of_getElem? (i := 1) rfl) rfl
theorem k1203 : Cond.instanceMethod yX12_often ∈ zt := zin_7 (List.mem_of_getElem? (i := 2) rfl) rfl
theorem k1204 : Cond.selects "TapeRingsModel" yX12_often yX12_often ∈ zt := zin_7 (List.mem_of_getElem? (i := 3) rfl) rfl
theorem k1205 : Cond.code yX12_often prog_14_method_46_code (5 : Nat) (Option.some FieldType.long) ∈ zt := zin_7 (List.mem_of_getElem? (i := 4) rfl) rfl
theorem k1206 : Cond.methodLink "TapeRingsLaw" (118 : Nat) yX12_mark ∈ zt := zin_7 (List.mem_of_getElem? (i := 5) rfl) rfl
theorem k1207 : Cond.instanceMethod yX12_mark ∈ zt := zin_7 (List.mem_of_getElem? (i := 6) rfl) rfl
theorem k1208 : Cond.selects "TapeRingsModel" yX12_mark yX12_mark ∈ zt := zin_7 (List.mem_of_getElem? (i := 7) rfl) rfl
theorem k1209 : Cond.code yX12_mark prog_14_method_47_code (3 : Nat) (Option.some FieldType.int) ∈ zt := zin_7 (List.mem_of_getElem? (i := 8) rfl) rfl
theorem k1210 : Cond.constant "TapeRingsModel" (262 : Nat) (100000 : Int32) ∈ zt := zin_7 (List.mem_of_getElem? (i := 9) rfl) rfl
theorem k1211 : Cond.methodLink "TapeRingsLaw" (122 : Nat) yX12_kept ∈ zt := zin_7 (List.mem_of_getElem? (i := 10) rfl) rfl
theorem k1212 : Cond.instanceMethod yX12_kept ∈ zt := zin_7 (List.mem_of_getElem? (i := 11) rfl) rfl
theorem k1213 : Cond.selects "TapeRingsModel" yX12_kept yX12_kept ∈ zt := zin_7 (List.mem_of_getElem? (i := 12) rfl) rfl
theorem k1214 : Cond.code yX12_kept prog_14_method_49_code (3 : Nat) (Option.some FieldType.int) ∈ zt := zin_7 (List.mem_of_getElem? (i := 13) rfl) rfl
theorem k1215 : Cond.methodLink "TapeRingsModel" (263 : Nat) yX12_truths ∈ zt := zin_7 (List.mem_of_getElem? (i := 14) rfl) rfl
theorem k1216 : Cond.instanceMethod yX12_truths ∈ zt := zin_7 (List.mem_of_getElem? (i := 16) rfl) rfl
theorem k1217 : Cond.code yX12_truths prog_14_method_48_code (10 : Nat) (Option.some FieldType.int) ∈ zt := zin_7 (List.mem_of_getElem? (i := 17) rfl) rfl
theorem k1218 : Cond.methodLink "TapeRingsLaw" (126 : Nat) yX12_plan ∈ zt := zin_7 (List.mem_of_getElem? (i := 18) rfl) rfl
theorem k1219 : Cond.instanceMethod yX12_plan ∈ zt := zin_7 (List.mem_of_getElem? (i := 19) rfl) rfl
theorem k1220 : Cond.selects "TapeRingsModel" yX12_plan yX12_plan ∈ zt := zin_7 (List.mem_of_getElem? (i := 20) rfl) rfl
theorem k1221 : Cond.code yX12_plan prog_14_method_52_code (1 : Nat) (Option.some FieldType.int) ∈ zt := zin_7 (List.mem_of_getElem? (i := 21) rfl) rfl
theorem k1222 : Cond.methodLink "TapeRingsModel" (274 : Nat) yX12_findPlan ∈ zt := zin_7 (List.mem_of_getElem? (i := 22) rfl) rfl
theorem k1223 : Cond.instanceMethod yX12_findPlan ∈ zt := zin_7 (List.mem_of_getElem? (i := 24) rfl) rfl
theorem k1224 : Cond.code yX12_findPlan prog_14_method_51_code (9 : Nat) (Option.some FieldType.int) ∈ zt := zin_7 (List.mem_of_getElem? (i := 25) rfl) rfl
theorem k1225 : Cond.constant "TapeRingsModel" (267 : Nat) (268435456 : Int32) ∈ zt := zin_7 (List.mem_of_getElem? (i := 26) rfl) rfl
theorem k1226 : Cond.methodLink "TapeRingsModel" (268 : Nat) yX12_costOf ∈ zt := zin_7 (List.mem_of_getElem? (i := 27) rfl) rfl
theorem k1227 : Cond.instanceMethod yX12_costOf ∈ zt := zin_7 (List.mem_of_getElem? (i := 29) rfl) rfl
theorem k1228 : Cond.code yX12_costOf prog_14_method_50_code (4 : Nat) (Option.some FieldType.int) ∈ zt := zin_7 (List.mem_of_getElem? (i := 30) rfl) rfl
theorem k1229 : Cond.methodLink "TapeRingsModel" (271 : Nat) yJ9_min_7cf53 ∈ zt := zin_7 (List.mem_of_getElem? (i := 31) rfl) rfl
theorem k1230 : Cond.methodLink "TapeRingsLaw" (130 : Nat) yX12_make ∈ zt := zin_7 (List.mem_of_getElem? (i := 32) rfl) rfl
theorem k1231 : Cond.instanceMethod yX12_make ∈ zt := zin_7 (List.mem_of_getElem? (i := 33) rfl) rfl
theorem k1232 : Cond.selects "TapeRingsModel" yX12_make yX12_make ∈ zt := zin_7 (List.mem_of_getElem? (i := 34) rfl) rfl
theorem k1233 : Cond.code yX12_make prog_14_method_53_code (3 : Nat) (Option.some FieldType.int) ∈ zt := zin_7 (List.mem_of_getElem? (i := 35) rfl) rfl
theorem k1234 : Cond.methodLink "TapeRingsLaw" (134 : Nat) yX12_cut ∈ zt := zin_7 (List.mem_of_getElem? (i := 36) rfl) rfl
theorem k1235 : Cond.instanceMethod yX12_cut ∈ zt := zin_7 (List.mem_of_getElem? (i := 37) rfl) rfl
theorem k1236 : Cond.selects "TapeRingsModel" yX12_cut yX12_cut ∈ zt := zin_7 (List.mem_of_getElem? (i := 38) rfl) rfl
theorem k1237 : Cond.code yX12_cut prog_14_method_54_code (3 : Nat) (Option.some FieldType.int) ∈ zt := zin_7 (List.mem_of_getElem? (i := 39) rfl) rfl
theorem k1238 : Cond.methodLink "TapeRingsLaw" (138 : Nat) yX12_weight ∈ zt := zin_7 (List.mem_of_getElem? (i := 40) rfl) rfl
theorem k1239 : Cond.instanceMethod yX12_weight ∈ zt := zin_7 (List.mem_of_getElem? (i := 41) rfl) rfl
theorem k1240 : Cond.selects "TapeRingsModel" yX12_weight yX12_weight ∈ zt := zin_7 (List.mem_of_getElem? (i := 42) rfl) rfl
theorem k1241 : Cond.code yX12_weight prog_14_method_55_code (4 : Nat) (Option.some FieldType.int) ∈ zt := zin_7 (List.mem_of_getElem? (i := 43) rfl) rfl
theorem k1242 : Cond.methodLink "TapeRingsLaw" (143 : Nat) yX12_heads ∈ zt := zin_7 (List.mem_of_getElem? (i := 44) rfl) rfl
theorem k1243 : Cond.instanceMethod yX12_heads ∈ zt := zin_7 (List.mem_of_getElem? (i := 45) rfl) rfl
theorem k1244 : Cond.selects "TapeRingsModel" yX12_heads yX12_heads ∈ zt := zin_7 (List.mem_of_getElem? (i := 46) rfl) rfl
theorem k1245 : Cond.code yX12_heads prog_14_method_56_code (5 : Nat) (Option.some FieldType.boolean) ∈ zt := zin_7 (List.mem_of_getElem? (i := 47) rfl) rfl
theorem k1246 : Cond.methodLink "TapeRingsLaw" (147 : Nat) yX12_stop ∈ zt := zin_7 (List.mem_of_getElem? (i := 48) rfl) rfl
theorem k1247 : Cond.instanceMethod yX12_stop ∈ zt := zin_7 (List.mem_of_getElem? (i := 49) rfl) rfl
theorem k1248 : Cond.selects "TapeRingsModel" yX12_stop yX12_stop ∈ zt := zin_7 (List.mem_of_getElem? (i := 50) rfl) rfl
theorem k1249 : Cond.code yX12_stop prog_14_method_57_code (3 : Nat) (Option.some FieldType.int) ∈ zt := zin_7 (List.mem_of_getElem? (i := 51) rfl) rfl
theorem k1250 : Cond.methodLink "TapeRingsLaw" (151 : Nat) yX12_out ∈ zt := zin_7 (List.mem_of_getElem? (i := 52) rfl) rfl
theorem k1251 : Cond.instanceMethod yX12_out ∈ zt := zin_7 (List.mem_of_getElem? (i := 53) rfl) rfl
theorem k1252 : Cond.selects "TapeRingsModel" yX12_out yX12_out ∈ zt := zin_7 (List.mem_of_getElem? (i := 54) rfl) rfl
theorem k1253 : Cond.code yX12_out prog_14_method_59_code (2 : Nat) (Option.some FieldType.int) ∈ zt := zin_7 (List.mem_of_getElem? (i := 55) rfl) rfl
theorem k1254 : Cond.methodLink "TapeRingsModel" (286 : Nat) yX12_findOuts ∈ zt := zin_7 (List.mem_of_getElem? (i := 56) rfl) rfl
theorem k1255 : Cond.instanceMethod yX12_findOuts ∈ zt := zin_7 (List.mem_of_getElem? (i := 58) rfl) rfl
theorem k1256 : Cond.code yX12_findOuts prog_14_method_58_code (6 : Nat) (Option.none : Option FieldType) ∈ zt := zin_7 (List.mem_of_getElem? (i := 59) rfl) rfl
theorem k1257 : Cond.methodLink "TapeRingsLaw" (155 : Nat) yX12_dies ∈ zt := zin_7 (List.mem_of_getElem? (i := 60) rfl) rfl
theorem k1258 : Cond.instanceMethod yX12_dies ∈ zt := zin_7 (List.mem_of_getElem? (i := 61) rfl) rfl
theorem k1259 : Cond.selects "TapeRingsModel" yX12_dies yX12_dies ∈ zt := zin_7 (List.mem_of_getElem? (i := 62) rfl) rfl
theorem k1260 : Cond.code yX12_dies prog_14_method_61_code (6 : Nat) (Option.some FieldType.int) ∈ zt := zin_7 (List.mem_of_getElem? (i := 63) rfl) rfl
theorem k1261 : Cond.methodLink "TapeRingsModel" (290 : Nat) yX12_areAlike ∈ zt := zin_7 (List.mem_of_getElem? (i := 64) rfl) rfl
theorem k1262 : Cond.instanceMethod yX12_areAlike ∈ zt := zin_7 (List.mem_of_getElem? (i := 66) rfl) rfl
theorem k1263 : Cond.code yX12_areAlike prog_14_method_60_code (4 : Nat) (Option.some FieldType.boolean) ∈ zt := zin_7 (List.mem_of_getElem? (i := 67) rfl) rfl
theorem k1264 : Cond.methodLink "TapeRingsLaw" (159 : Nat) yX12_tape ∈ zt := zin_7 (List.mem_of_getElem? (i := 68) rfl) rfl
theorem k1265 : Cond.instanceMethod yX12_tape ∈ zt := zin_7 (List.mem_of_getElem? (i := 69) rfl) rfl
theorem k1266 : Cond.selects "TapeRingsModel" yX12_tape yX12_tape ∈ zt := zin_7 (List.mem_of_getElem? (i := 70) rfl) rfl
theorem k1267 : Cond.code yX12_tape prog_14_method_62_code (2 : Nat) (Option.some FieldType.int) ∈ zt := zin_7 (List.mem_of_getElem? (i := 71) rfl) rfl
theorem k1268 : Cond.methodLink "TapeRingsLaw" (163 : Nat) yX12_take ∈ zt := zin_7 (List.mem_of_getElem? (i := 72) rfl) rfl
theorem k1269 : Cond.instanceMethod yX12_take ∈ zt := zin_7 (List.mem_of_getElem? (i := 73) rfl) rfl
theorem k1270 : Cond.selects "TapeRingsModel" yX12_take yX12_take ∈ zt := zin_7 (List.mem_of_getElem? (i := 74) rfl) rfl
theorem k1271 : Cond.code yX12_take prog_14_method_63_code (4 : Nat) (Option.some FieldType.boolean) ∈ zt := zin_7 (List.mem_of_getElem? (i := 75) rfl) rfl
theorem k1272 : Cond.methodLink "TapeRingsLaw" (167 : Nat) yX12_gap ∈ zt := zin_7 (List.mem_of_getElem? (i := 76) rfl) rfl
theorem k1273 : Cond.instanceMethod yX12_gap ∈ zt := zin_7 (List.mem_of_getElem? (i := 77) rfl) rfl
theorem k1274 : Cond.selects "TapeRingsModel" yX12_gap yX12_gap ∈ zt := zin_7 (List.mem_of_getElem? (i := 78) rfl) rfl
theorem k1275 : Cond.code yX12_gap prog_14_method_64_code (2 : Nat) (Option.some FieldType.boolean) ∈ zt := zin_7 (List.mem_of_getElem? (i := 79) rfl) rfl
theorem k1276 : Cond.methodLink "TapeRingsLaw" (171 : Nat) yX12_wipe ∈ zt := zin_7 (List.mem_of_getElem? (i := 80) rfl) rfl
theorem k1277 : Cond.instanceMethod yX12_wipe ∈ zt := zin_7 (List.mem_of_getElem? (i := 81) rfl) rfl
theorem k1278 : Cond.selects "TapeRingsModel" yX12_wipe yX12_wipe ∈ zt := zin_7 (List.mem_of_getElem? (i := 82) rfl) rfl
theorem k1279 : Cond.code yX12_wipe prog_14_method_65_code (2 : Nat) (Option.some FieldType.int) ∈ zt := zin_7 (List.mem_of_getElem? (i := 83) rfl) rfl
theorem k1280 : Cond.methodLink "TapeRingsLaw" (175 : Nat) yX12_span ∈ zt := zin_7 (List.mem_of_getElem? (i := 84) rfl) rfl
theorem k1281 : Cond.instanceMethod yX12_span ∈ zt := zin_7 (List.mem_of_getElem? (i := 85) rfl) rfl
theorem k1282 : Cond.selects "TapeRingsModel" yX12_span yX12_span ∈ zt := zin_7 (List.mem_of_getElem? (i := 86) rfl) rfl
theorem k1283 : Cond.code yX12_span prog_14_method_67_code (4 : Nat) (Option.some FieldType.int) ∈ zt := zin_7 (List.mem_of_getElem? (i := 87) rfl) rfl
theorem k1284 : Cond.methodLink "TapeRingsModel" (293 : Nat) yX12_isSpan ∈ zt := zin_7 (List.mem_of_getElem? (i := 88) rfl) rfl
theorem k1285 : Cond.instanceMethod yX12_isSpan ∈ zt := zin_7 (List.mem_of_getElem? (i := 90) rfl) rfl
theorem k1286 : Cond.code yX12_isSpan prog_14_method_66_code (4 : Nat) (Option.some FieldType.boolean) ∈ zt := zin_7 (List.mem_of_getElem? (i := 91) rfl) rfl
theorem k1287 : Cond.methodLink "TapeRingsLaw" (179 : Nat) yX12_pair ∈ zt := zin_7 (List.mem_of_getElem? (i := 92) rfl) rfl
theorem k1288 : Cond.instanceMethod yX12_pair ∈ zt := zin_7 (List.mem_of_getElem? (i := 93) rfl) rfl
theorem k1289 : Cond.selects "TapeRingsModel" yX12_pair yX12_pair ∈ zt := zin_7 (List.mem_of_getElem? (i := 94) rfl) rfl
theorem k1290 : Cond.code yX12_pair prog_14_method_71_code (2 : Nat) (Option.some FieldType.int) ∈ zt := zin_7 (List.mem_of_getElem? (i := 95) rfl) rfl
theorem k1291 : Cond.methodLink "TapeRingsModel" (302 : Nat) yX12_pairAt ∈ zt := zin_7 (List.mem_of_getElem? (i := 96) rfl) rfl
theorem k1292 : Cond.instanceMethod yX12_pairAt ∈ zt := zin_7 (List.mem_of_getElem? (i := 98) rfl) rfl
theorem k1293 : Cond.code yX12_pairAt prog_14_method_70_code (5 : Nat) (Option.some FieldType.int) ∈ zt := zin_7 (List.mem_of_getElem? (i := 99) rfl) rfl
theorem k1294 : Cond.methodLink "TapeRingsModel" (299 : Nat) yX12_isPair ∈ zt := zin_7 (List.mem_of_getElem? (i := 100) rfl) rfl
theorem k1295 : Cond.instanceMethod yX12_isPair ∈ zt := zin_7 (List.mem_of_getElem? (i := 102) rfl) rfl
theorem k1296 : Cond.code yX12_isPair prog_14_method_69_code (4 : Nat) (Option.some FieldType.boolean) ∈ zt := zin_7 (List.mem_of_getElem? (i := 103) rfl) rfl
theorem k1297 : Cond.methodLink "TapeRingsModel" (296 : Nat) yX12_most ∈ zt := zin_7 (List.mem_of_getElem? (i := 104) rfl) rfl
theorem k1298 : Cond.instanceMethod yX12_most ∈ zt := zin_7 (List.mem_of_getElem? (i := 106) rfl) rfl
theorem k1299 : Cond.code yX12_most prog_14_method_68_code (5 : Nat) (Option.some FieldType.int) ∈ zt := zin_7 (List.mem_of_getElem? (i := 107) rfl) rfl
theorem k1300 : Cond.methodLink "TapeRingsLaw" (183 : Nat) yX12_mended ∈ zt := zin_7 (List.mem_of_getElem? (i := 108) rfl) rfl
theorem k1301 : Cond.instanceMethod yX12_mended ∈ zt := zin_7 (List.mem_of_getElem? (i := 109) rfl) rfl
theorem k1302 : Cond.selects "TapeRingsModel" yX12_mended yX12_mended ∈ zt := zin_7 (List.mem_of_getElem? (i := 110) rfl) rfl
theorem k1303 : Cond.code yX12_mended prog_14_method_72_code (3 : Nat) (Option.some FieldType.int) ∈ zt := zin_7 (List.mem_of_getElem? (i := 111) rfl) rfl
theorem k1304 : Cond.methodLink "TapeRingsLaw" (187 : Nat) yX12_piece ∈ zt := zin_7 (List.mem_of_getElem? (i := 112) rfl) rfl
theorem k1305 : Cond.instanceMethod yX12_piece ∈ zt := zin_7 (List.mem_of_getElem? (i := 113) rfl) rfl
theorem k1306 : Cond.selects "TapeRingsModel" yX12_piece yX12_piece ∈ zt := zin_7 (List.mem_of_getElem? (i := 114) rfl) rfl
theorem k1307 : Cond.code yX12_piece prog_14_method_73_code (4 : Nat) (Option.some FieldType.int) ∈ zt := zin_7 (List.mem_of_getElem? (i := 115) rfl) rfl
theorem k1308 : Cond.methodLink "TapeRingsLaw" (191 : Nat) yX12_burn ∈ zt := zin_7 (List.mem_of_getElem? (i := 116) rfl) rfl
theorem k1309 : Cond.instanceMethod yX12_burn ∈ zt := zin_7 (List.mem_of_getElem? (i := 117) rfl) rfl
theorem k1310 : Cond.selects "TapeRingsModel" yX12_burn yX12_burn ∈ zt := zin_7 (List.mem_of_getElem? (i := 118) rfl) rfl
theorem k1311 : Cond.code yX12_burn prog_14_method_74_code (2 : Nat) (Option.some FieldType.int) ∈ zt := zin_7 (List.mem_of_getElem? (i := 119) rfl) rfl
theorem k1312 : Cond.methodLink "TapeRingsLaw" (195 : Nat) yX12_join ∈ zt := zin_7 (List.mem_of_getElem? (i := 120) rfl) rfl
theorem k1313 : Cond.instanceMethod yX12_join ∈ zt := zin_7 (List.mem_of_getElem? (i := 121) rfl) rfl
theorem k1314 : Cond.selects "TapeRingsModel" yX12_join yX12_join ∈ zt := zin_7 (List.mem_of_getElem? (i := 122) rfl) rfl
theorem k1315 : Cond.code yX12_join prog_14_method_78_code (2 : Nat) (Option.some FieldType.int) ∈ zt := zin_7 (List.mem_of_getElem? (i := 123) rfl) rfl
theorem k1316 : Cond.methodLink "TapeRingsModel" (316 : Nat) yX12_joinFrom ∈ zt := zin_7 (List.mem_of_getElem? (i := 124) rfl) rfl
theorem k1317 : Cond.instanceMethod yX12_joinFrom ∈ zt := zin_7 (List.mem_of_getElem? (i := 126) rfl) rfl
theorem k1318 : Cond.code yX12_joinFrom prog_14_method_76_code (10 : Nat) (Option.none : Option FieldType) ∈ zt := zin_7 (List.mem_of_getElem? (i := 127) rfl) rfl
theorem k1319 : Cond.methodLink "TapeRingsModel" (308 : Nat) yX12_lies ∈ zt := zin_7 (List.mem_of_getElem? (i := 128) rfl) rfl
theorem k1320 : Cond.instanceMethod yX12_lies ∈ zt := zin_7 (List.mem_of_getElem? (i := 130) rfl) rfl
theorem k1321 : Cond.code yX12_lies prog_14_method_77_code (7 : Nat) (Option.some FieldType.boolean) ∈ zt := zin_7 (List.mem_of_getElem? (i := 131) rfl) rfl
theorem k1322 : Cond.methodLink "TapeRingsModel" (312 : Nat) yX12_sound ∈ zt := zin_7 (List.mem_of_getElem? (i := 132) rfl) rfl
theorem k1323 : Cond.instanceMethod yX12_sound ∈ zt := zin_7 (List.mem_of_getElem? (i := 134) rfl) rfl
theorem k1324 : Cond.code yX12_sound prog_14_method_75_code (4 : Nat) (Option.some FieldType.int) ∈ zt := zin_7 (List.mem_of_getElem? (i := 135) rfl) rfl
theorem k1325 : Cond.methodLink "TapeRingsLaw" (199 : Nat) yX12_keep ∈ zt := zin_7 (List.mem_of_getElem? (i := 136) rfl) rfl
theorem k1326 : Cond.instanceMethod yX12_keep ∈ zt := zin_7 (List.mem_of_getElem? (i := 137) rfl) rfl
theorem k1327 : Cond.selects "TapeRingsModel" yX12_keep yX12_keep ∈ zt := zin_7 (List.mem_of_getElem? (i := 138) rfl) rfl
theorem k1328 : Cond.code yX12_keep prog_14_method_79_code (4 : Nat) (Option.some FieldType.int) ∈ zt := zin_7 (List.mem_of_getElem? (i := 139) rfl) rfl
theorem k1329 : Cond.methodLink "TapeRingsLaw" (203 : Nat) yX12_known ∈ zt := zin_7 (List.mem_of_getElem? (i := 140) rfl) rfl
theorem k1330 : Cond.instanceMethod yX12_known ∈ zt := zin_7 (List.mem_of_getElem? (i := 141) rfl) rfl
theorem k1331 : Cond.selects "TapeRingsModel" yX12_known yX12_known ∈ zt := zin_7 (List.mem_of_getElem? (i := 142) rfl) rfl
theorem k1332 : Cond.code yX12_known prog_14_method_80_code (4 : Nat) (Option.some FieldType.int) ∈ zt := zin_7 (List.mem_of_getElem? (i := 143) rfl) rfl
theorem k1333 : Cond.methodLink "TapeRingsLaw" (207 : Nat) yX12_fetch ∈ zt := zin_7 (List.mem_of_getElem? (i := 144) rfl) rfl
theorem k1334 : Cond.instanceMethod yX12_fetch ∈ zt := zin_7 (List.mem_of_getElem? (i := 145) rfl) rfl
theorem k1335 : Cond.selects "TapeRingsModel" yX12_fetch yX12_fetch ∈ zt := zin_7 (List.mem_of_getElem? (i := 146) rfl) rfl
theorem k1336 : Cond.code yX12_fetch prog_14_method_81_code (3 : Nat) (Option.some FieldType.int) ∈ zt := zin_7 (List.mem_of_getElem? (i := 147) rfl) rfl
theorem k1337 : Cond.methodLink "TapeRingsLaw" (211 : Nat) yX12_edits ∈ zt := zin_7 (List.mem_of_getElem? (i := 148) rfl) rfl
theorem k1338 : Cond.instanceMethod yX12_edits ∈ zt := zin_7 (List.mem_of_getElem? (i := 149) rfl) rfl
theorem k1339 : Cond.selects "TapeRingsModel" yX12_edits yX12_edits ∈ zt := zin_7 (List.mem_of_getElem? (i := 150) rfl) rfl
theorem k1340 : Cond.code yX12_edits prog_14_method_83_code (5 : Nat) (Option.some FieldType.int) ∈ zt := zin_7 (List.mem_of_getElem? (i := 151) rfl) rfl
theorem k1341 : Cond.methodLink "TapeRingsModel" (320 : Nat) yX12_editsBy ∈ zt := zin_7 (List.mem_of_getElem? (i := 152) rfl) rfl
theorem k1342 : Cond.instanceMethod yX12_editsBy ∈ zt := zin_7 (List.mem_of_getElem? (i := 154) rfl) rfl
theorem k1343 : Cond.code yX12_editsBy prog_14_method_82_code (11 : Nat) (Option.some FieldType.int) ∈ zt := zin_7 (List.mem_of_getElem? (i := 155) rfl) rfl
theorem k1344 : Cond.methodLink "TapeRingsLaw" (215 : Nat) yX12_row ∈ zt := zin_7 (List.mem_of_getElem? (i := 156) rfl) rfl
theorem k1345 : Cond.instanceMethod yX12_row ∈ zt := zin_7 (List.mem_of_getElem? (i := 157) rfl) rfl
theorem k1346 : Cond.selects "TapeRingsModel" yX12_row yX12_row ∈ zt := zin_7 (List.mem_of_getElem? (i := 158) rfl) rfl
theorem k1347 : Cond.code yX12_row prog_14_method_84_code (2 : Nat) (Option.some FieldType.int) ∈ zt := zin_7 (List.mem_of_getElem? (i := 159) rfl) rfl
theorem k1348 : Cond.constantLong "TapeRingsLaw" (89 : Nat) (4294967295 : Int64) ∈ zt := zin_7 (List.mem_of_getElem? (i := 160) rfl) rfl
theorem k1349 : Cond.arrayClass FieldType.long ∈ zt := zin_7 (List.mem_of_getElem? (i := 161) rfl) rfl
theorem k1350 : Cond.selects RX7 yX7_firstWrong yX7_firstWrong ∈ zt := zin_p (i := 0) (q := (yX7_firstWrong, _)) rfl rfl
theorem k1351 : Cond.selects RX7 yX7_behind yX7_behind ∈ zt := zin_p (i := 1) (q := (yX7_behind, _)) rfl rfl
theorem k1352 : Cond.selects RX7 yX7_behindAtomStart yX7_behindAtomStart ∈ zt := zin_p (i := 2) (q := (yX7_behindAtomStart, _)) rfl rfl
theorem k1353 : Cond.selects RX7 yX7_behindTermSign yX7_behindTermSign ∈ zt := zin_p (i := 3) (q := (yX7_behindTermSign, _)) rfl rfl
theorem k1354 : Cond.selects RX7 yX7_putTogether yX7_putTogether ∈ zt := zin_p (i := 4) (q := (yX7_putTogether, _)) rfl rfl
theorem k1355 : Cond.selects RX7 yX7_openRow yX7_openRow ∈ zt := zin_p (i := 5) (q := (yX7_openRow, _)) rfl rfl
theorem k1356 : Cond.selects RX7 yX7_readDigit yX7_readDigit ∈ zt := zin_p (i := 6) (q := (yX7_readDigit, _)) rfl rfl
theorem k1357 : Cond.selects RX7 yX7_repeatTerm yX7_repeatTerm ∈ zt := zin_p (i := 7) (q := (yX7_repeatTerm, _)) rfl rfl
theorem k1358 : Cond.selects RX7 yX7_beginTerm yX7_beginTerm ∈ zt := zin_p (i := 8) (q := (yX7_beginTerm, _)) rfl rfl
theorem k1359 : Cond.selects RX7 yX7_layTerm yX7_layTerm ∈ zt := zin_p (i := 9) (q := (yX7_layTerm, _)) rfl rfl
theorem k1360 : Cond.selects RX7 yX7_readSign yX7_readSign ∈ zt := zin_p (i := 10) (q := (yX7_readSign, _)) rfl rfl
theorem k1361 : Cond.selects RX7 yX7_open yX7_open ∈ zt := zin_p (i := 11) (q := (yX7_open, _)) rfl rfl
theorem k1362 : Cond.selects RX7 yX7_close yX7_close ∈ zt := zin_p (i := 12) (q := (yX7_close, _)) rfl rfl
theorem k1363 : Cond.selects RX6 yX6_listen yX6_listen ∈ zt := zin_p (i := 13) (q := (yX6_listen, _)) rfl rfl
theorem k1364 : Cond.selects RX6 yX6_soundsUnder yX6_soundsUnder ∈ zt := zin_p (i := 14) (q := (yX6_soundsUnder, _)) rfl rfl
theorem k1365 : Cond.selects RX1 yX1_turnsOf yX1_turnsOf ∈ zt := zin_p (i := 15) (q := (yX1_turnsOf, _)) rfl rfl
theorem k1366 : Cond.selects RX1 yX1_sharedTicks yX1_sharedTicks ∈ zt := zin_p (i := 16) (q := (yX1_sharedTicks, _)) rfl rfl
theorem k1367 : Cond.selects RX1 yX1_turnsAlike yX1_turnsAlike ∈ zt := zin_p (i := 17) (q := (yX1_turnsAlike, _)) rfl rfl
theorem k1368 : Cond.selects RX1 yX1_firstSteady yX1_firstSteady ∈ zt := zin_p (i := 18) (q := (yX1_firstSteady, _)) rfl rfl
theorem k1369 : Cond.selects RX1 yX1_ticksToTurn yX1_ticksToTurn ∈ zt := zin_p (i := 19) (q := (yX1_ticksToTurn, _)) rfl rfl
theorem k1370 : Cond.selects RX5 yX5_listTrue yX5_listTrue ∈ zt := zin_p (i := 20) (q := (yX5_listTrue, _)) rfl rfl
theorem k1371 : Cond.selects RX5 yX5_trueFrom yX5_trueFrom ∈ zt := zin_p (i := 21) (q := (yX5_trueFrom, _)) rfl rfl
theorem k1372 : Cond.selects RX5 yX5_listCheapest yX5_listCheapest ∈ zt := zin_p (i := 22) (q := (yX5_listCheapest, _)) rfl rfl
theorem k1373 : Cond.selects RX5 yX5_addCosts yX5_addCosts ∈ zt := zin_p (i := 23) (q := (yX5_addCosts, _)) rfl rfl
theorem k1374 : Cond.selects RX5 yX5_choose yX5_choose ∈ zt := zin_p (i := 24) (q := (yX5_choose, _)) rfl rfl
theorem k1375 : Cond.selects RX11 yX11_tell yX11_tell ∈ zt := zin_p (i := 25) (q := (yX11_tell, _)) rfl rfl
theorem k1376 : Cond.selects RX0 yX0_loudness yX0_loudness ∈ zt := zin_p (i := 26) (q := (yX0_loudness, _)) rfl rfl
theorem k1377 : Cond.selects RX0 yX0_behind yX0_behind ∈ zt := zin_p (i := 27) (q := (yX0_behind, _)) rfl rfl
theorem k1378 : Cond.selects RX0 yX0_firstSilence yX0_firstSilence ∈ zt := zin_p (i := 28) (q := (yX0_firstSilence, _)) rfl rfl
theorem k1379 : Cond.selects RX0 yX0_comesBackIn yX0_comesBackIn ∈ zt := zin_p (i := 29) (q := (yX0_comesBackIn, _)) rfl rfl
theorem k1380 : Cond.selects RX0 yX0_alike yX0_alike ∈ zt := zin_p (i := 30) (q := (yX0_alike, _)) rfl rfl
theorem k1381 : Cond.selects RX3 yX3_spanFits yX3_spanFits ∈ zt := zin_p (i := 31) (q := (yX3_spanFits, _)) rfl rfl
theorem k1382 : Cond.selects RX3 yX3_pairFits yX3_pairFits ∈ zt := zin_p (i := 32) (q := (yX3_pairFits, _)) rfl rfl
theorem k1383 : Cond.selects RX3 yX3_makeGreatest yX3_makeGreatest ∈ zt := zin_p (i := 33) (q := (yX3_makeGreatest, _)) rfl rfl
theorem k1384 : Cond.selects RX4 yX4_keepBetter yX4_keepBetter ∈ zt := zin_p (i := 34) (q := (yX4_keepBetter, _)) rfl rfl
theorem k1385 : Cond.selects RX4 yX4_laidIsLess yX4_laidIsLess ∈ zt := zin_p (i := 35) (q := (yX4_laidIsLess, _)) rfl rfl
theorem k1386 : Cond.selects RX4 yX4_layPiece yX4_layPiece ∈ zt := zin_p (i := 36) (q := (yX4_layPiece, _)) rfl rfl
theorem k1387 : Cond.selects RX4 yX4_alike yX4_alike ∈ zt := zin_p (i := 37) (q := (yX4_alike, _)) rfl rfl
theorem k1388 : Cond.selects RX4 yX4_sound yX4_sound ∈ zt := zin_p (i := 38) (q := (yX4_sound, _)) rfl rfl
theorem k1389 : Cond.selects RX10 yX10_editsTurned yX10_editsTurned ∈ zt := zin_p (i := 39) (q := (yX10_editsTurned, _)) rfl rfl
theorem k1390 : Cond.selects RX12 yX12_skipRow yX12_skipRow ∈ zt := zin_p (i := 41) (q := (yX12_skipRow, _)) rfl rfl
theorem k1391 : Cond.selects RX12 yX12_skipTerm yX12_skipTerm ∈ zt := zin_p (i := 42) (q := (yX12_skipTerm, _)) rfl rfl
theorem k1392 : Cond.selects RX12 yX12_skipAtom yX12_skipAtom ∈ zt := zin_p (i := 43) (q := (yX12_skipAtom, _)) rfl rfl
theorem k1393 : Cond.selects RX12 yX12_has yX12_has ∈ zt := zin_p (i := 44) (q := (yX12_has, _)) rfl rfl
theorem k1394 : Cond.selects RX12 yX12_isWrong yX12_isWrong ∈ zt := zin_p (i := 45) (q := (yX12_isWrong, _)) rfl rfl
theorem k1395 : Cond.selects RX12 yX12_makeRow yX12_makeRow ∈ zt := zin_p (i := 46) (q := (yX12_makeRow, _)) rfl rfl
theorem k1396 : Cond.selects RX12 yX12_makeTerm yX12_makeTerm ∈ zt := zin_p (i := 47) (q := (yX12_makeTerm, _)) rfl rfl
theorem k1397 : Cond.selects RX12 yX12_isRing yX12_isRing ∈ zt := zin_p (i := 48) (q := (yX12_isRing, _)) rfl rfl
theorem k1398 : Cond.selects RX12 yX12_round yX12_round ∈ zt := zin_p (i := 49) (q := (yX12_round, _)) rfl rfl
theorem k1399 : Cond.selects RX12 yX12_lastSpeed yX12_lastSpeed ∈ zt := zin_p (i := 50) (q := (yX12_lastSpeed, _)) rfl rfl
theorem k1400 : Cond.selects RX12 yX12_wayEarly yX12_wayEarly ∈ zt := zin_p (i := 51) (q := (yX12_wayEarly, _)) rfl rfl
theorem k1401 : Cond.selects RX12 yX12_heardInAll yX12_heardInAll ∈ zt := zin_p (i := 52) (q := (yX12_heardInAll, _)) rfl rfl
theorem k1402 : Cond.selects RX12 yX12_heardOf yX12_heardOf ∈ zt := zin_p (i := 53) (q := (yX12_heardOf, _)) rfl rfl
theorem k1403 : Cond.selects RX12 yX12_wayBy yX12_wayBy ∈ zt := zin_p (i := 54) (q := (yX12_wayBy, _)) rfl rfl
theorem k1404 : Cond.selects RX12 yX12_steady yX12_steady ∈ zt := zin_p (i := 55) (q := (yX12_steady, _)) rfl rfl
theorem k1405 : Cond.selects RX12 yX12_heardAt yX12_heardAt ∈ zt := zin_p (i := 56) (q := (yX12_heardAt, _)) rfl rfl
theorem k1406 : Cond.selects RX12 yX12_allRounds yX12_allRounds ∈ zt := zin_p (i := 57) (q := (yX12_allRounds, _)) rfl rfl
theorem k1407 : Cond.selects RX12 yX12_steadyAll yX12_steadyAll ∈ zt := zin_p (i := 58) (q := (yX12_steadyAll, _)) rfl rfl
theorem k1408 : Cond.selects RX12 yX12_meetsAt yX12_meetsAt ∈ zt := zin_p (i := 59) (q := (yX12_meetsAt, _)) rfl rfl
theorem k1409 : Cond.selects RX12 yX12_findHeard yX12_findHeard ∈ zt := zin_p (i := 60) (q := (yX12_findHeard, _)) rfl rfl
theorem k1410 : Cond.selects RX12 yX12_meetsBehind yX12_meetsBehind ∈ zt := zin_p (i := 61) (q := (yX12_meetsBehind, _)) rfl rfl
theorem k1411 : Cond.selects RX12 yX12_truths yX12_truths ∈ zt := zin_p (i := 62) (q := (yX12_truths, _)) rfl rfl
theorem k1412 : Cond.selects RX12 yX12_findPlan yX12_findPlan ∈ zt := zin_p (i := 63) (q := (yX12_findPlan, _)) rfl rfl
theorem k1413 : Cond.selects RX12 yX12_costOf yX12_costOf ∈ zt := zin_p (i := 64) (q := (yX12_costOf, _)) rfl rfl
theorem k1414 : Cond.selects RX12 yX12_findOuts yX12_findOuts ∈ zt := zin_p (i := 65) (q := (yX12_findOuts, _)) rfl rfl
theorem k1415 : Cond.selects RX12 yX12_areAlike yX12_areAlike ∈ zt := zin_p (i := 66) (q := (yX12_areAlike, _)) rfl rfl
theorem k1416 : Cond.selects RX12 yX12_isSpan yX12_isSpan ∈ zt := zin_p (i := 67) (q := (yX12_isSpan, _)) rfl rfl
theorem k1417 : Cond.selects RX12 yX12_pairAt yX12_pairAt ∈ zt := zin_p (i := 68) (q := (yX12_pairAt, _)) rfl rfl
theorem k1418 : Cond.selects RX12 yX12_isPair yX12_isPair ∈ zt := zin_p (i := 69) (q := (yX12_isPair, _)) rfl rfl
theorem k1419 : Cond.selects RX12 yX12_most yX12_most ∈ zt := zin_p (i := 70) (q := (yX12_most, _)) rfl rfl
theorem k1420 : Cond.selects RX12 yX12_joinFrom yX12_joinFrom ∈ zt := zin_p (i := 71) (q := (yX12_joinFrom, _)) rfl rfl
theorem k1421 : Cond.selects RX12 yX12_lies yX12_lies ∈ zt := zin_p (i := 72) (q := (yX12_lies, _)) rfl rfl
theorem k1422 : Cond.selects RX12 yX12_sound yX12_sound ∈ zt := zin_p (i := 73) (q := (yX12_sound, _)) rfl rfl
theorem k1423 : Cond.selects RX12 yX12_editsBy yX12_editsBy ∈ zt := zin_p (i := 74) (q := (yX12_editsBy, _)) rfl rfl
theorem u0 : ∀ w ∈ u_ws RX0 TX0 8, w ∈ zt := by
  intro w h
  obtain ⟨k, hk, rfl⟩ := List.mem_map.mp h
  have hk := List.mem_range.mp hk
  exact match k, hk with
  | 0, _ => k182
  | 1, _ => k183
  | 2, _ => k184
  | 3, _ => k185
  | 4, _ => k186
  | 5, _ => k187
  | 6, _ => k188
  | 7, _ => k189
  | k + 8, h => absurd h (by omega)
theorem u1 : ∀ w ∈ u_ws RX1 TX1 4, w ∈ zt := by
  intro w h
  obtain ⟨k, hk, rfl⟩ := List.mem_map.mp h
  have hk := List.mem_range.mp hk
  exact match k, hk with
  | 0, _ => k133
  | 1, _ => k134
  | 2, _ => k135
  | 3, _ => k136
  | k + 4, h => absurd h (by omega)
theorem u2 : ∀ w ∈ u_ws RX2 TX2 3, w ∈ zt := by
  intro w h
  obtain ⟨k, hk, rfl⟩ := List.mem_map.mp h
  have hk := List.mem_range.mp hk
  exact match k, hk with
  | 0, _ => k85
  | 1, _ => k86
  | 2, _ => k87
  | k + 3, h => absurd h (by omega)
theorem u3 : ∀ w ∈ u_ws RX3 TX3 4, w ∈ zt := by
  intro w h
  obtain ⟨k, hk, rfl⟩ := List.mem_map.mp h
  have hk := List.mem_range.mp hk
  exact match k, hk with
  | 0, _ => k200
  | 1, _ => k201
  | 2, _ => k202
  | 3, _ => k203
  | k + 4, h => absurd h (by omega)
theorem u4 : ∀ w ∈ u_ws RX4 TX4 6, w ∈ zt := by
  intro w h
  obtain ⟨k, hk, rfl⟩ := List.mem_map.mp h
  have hk := List.mem_range.mp hk
  exact match k, hk with
  | 0, _ => k218
  | 1, _ => k219
  | 2, _ => k220
  | 3, _ => k221
  | 4, _ => k222
  | 5, _ => k223
  | k + 6, h => absurd h (by omega)
theorem u5 : ∀ w ∈ u_ws RX5 TX5 9, w ∈ zt := by
  intro w h
  obtain ⟨k, hk, rfl⟩ := List.mem_map.mp h
  have hk := List.mem_range.mp hk
  exact match k, hk with
  | 0, _ => k154
  | 1, _ => k155
  | 2, _ => k156
  | 3, _ => k157
  | 4, _ => k158
  | 5, _ => k159
  | 6, _ => k160
  | 7, _ => k161
  | 8, _ => k162
  | k + 9, h => absurd h (by omega)
theorem u6 : ∀ w ∈ u_ws RX6 TX6 6, w ∈ zt := by
  intro w h
  obtain ⟨k, hk, rfl⟩ := List.mem_map.mp h
  have hk := List.mem_range.mp hk
  exact match k, hk with
  | 0, _ => k110
  | 1, _ => k111
  | 2, _ => k112
  | 3, _ => k113
  | 4, _ => k114
  | 5, _ => k115
  | k + 6, h => absurd h (by omega)
theorem u7 : ∀ w ∈ u_ws RX7 TX7 7, w ∈ zt := by
  intro w h
  obtain ⟨k, hk, rfl⟩ := List.mem_map.mp h
  have hk := List.mem_range.mp hk
  exact match k, hk with
  | 0, _ => k62
  | 1, _ => k63
  | 2, _ => k64
  | 3, _ => k65
  | 4, _ => k66
  | 5, _ => k67
  | 6, _ => k68
  | k + 7, h => absurd h (by omega)
theorem u8 : ∀ w ∈ u_ws RX8 TX8 2, w ∈ zt := by
  intro w h
  obtain ⟨k, hk, rfl⟩ := List.mem_map.mp h
  have hk := List.mem_range.mp hk
  exact match k, hk with
  | 0, _ => k51
  | 1, _ => k52
  | k + 2, h => absurd h (by omega)
theorem u9 : ∀ w ∈ u_ws RX9 TX9 3, w ∈ zt := by
  intro w h
  obtain ⟨k, hk, rfl⟩ := List.mem_map.mp h
  have hk := List.mem_range.mp hk
  exact match k, hk with
  | 0, _ => k121
  | 1, _ => k122
  | 2, _ => k123
  | k + 3, h => absurd h (by omega)
theorem u10 : ∀ w ∈ u_ws RX10 TX10 5, w ∈ zt := by
  intro w h
  obtain ⟨k, hk, rfl⟩ := List.mem_map.mp h
  have hk := List.mem_range.mp hk
  exact match k, hk with
  | 0, _ => k237
  | 1, _ => k238
  | 2, _ => k239
  | 3, _ => k240
  | 4, _ => k241
  | k + 5, h => absurd h (by omega)
theorem u11 : ∀ w ∈ u_ws RX11 TX11 11, w ∈ zt := by
  intro w h
  obtain ⟨k, hk, rfl⟩ := List.mem_map.mp h
  have hk := List.mem_range.mp hk
  exact match k, hk with
  | 0, _ => k253
  | 1, _ => k254
  | 2, _ => k255
  | 3, _ => k256
  | 4, _ => k257
  | 5, _ => k258
  | 6, _ => k259
  | 7, _ => k260
  | 8, _ => k261
  | 9, _ => k262
  | 10, _ => k263
  | k + 11, h => absurd h (by omega)
theorem u12 : ∀ w ∈ u_ws RX12 TX12 50, w ∈ zt := by
  intro w h
  obtain ⟨k, hk, rfl⟩ := List.mem_map.mp h
  have hk := List.mem_range.mp hk
  exact match k, hk with
  | 0, _ => k994
  | 1, _ => k995
  | 2, _ => k996
  | 3, _ => k997
  | 4, _ => k998
  | 5, _ => k999
  | 6, _ => k1000
  | 7, _ => k1001
  | 8, _ => k1002
  | 9, _ => k1003
  | 10, _ => k1004
  | 11, _ => k1005
  | 12, _ => k1006
  | 13, _ => k1007
  | 14, _ => k1008
  | 15, _ => k1009
  | 16, _ => k1010
  | 17, _ => k1011
  | 18, _ => k1012
  | 19, _ => k1013
  | 20, _ => k1014
  | 21, _ => k1015
  | 22, _ => k1016
  | 23, _ => k1017
  | 24, _ => k1018
  | 25, _ => k1019
  | 26, _ => k1020
  | 27, _ => k1021
  | 28, _ => k1022
  | 29, _ => k1023
  | 30, _ => k1024
  | 31, _ => k1025
  | 32, _ => k1026
  | 33, _ => k1027
  | 34, _ => k1028
  | 35, _ => k1029
  | 36, _ => k1030
  | 37, _ => k1031
  | 38, _ => k1032
  | 39, _ => k1033
  | 40, _ => k1034
  | 41, _ => k1035
  | 42, _ => k1036
  | 43, _ => k1037
  | 44, _ => k1038
  | 45, _ => k1039
  | 46, _ => k1040
  | 47, _ => k1041
  | 48, _ => k1042
  | 49, _ => k1043
  | k + 50, h => absurd h (by omega)
def z_nest : List (String × Nat × MethodName × String) := [(RX7, 37, yX8_init, RX11), (RX11, 18, yX8_init, RX11), (RX9, 27, yX2_init, RX11), (RX9, 28, yX6_init, RX11), (RX6, 11, yX8_init, RX11), (RX11, 32, yX1_init, RX11), (RX11, 39, yX5_init, RX11), (RX11, 53, yX3_init, RX11), (RX11, 60, yX4_init, RX11), (RX10, 31, yX8_init, RX11), (RX6, 56, yX11_by, RX11), (RX2, 36, yX11_by, RX11), (RX2, 43, yX11_withoutShared, RX11), (RX1, 47, yX11_leastMultiple, RX11), (RX1, 54, yX11_greatestDivisor, RX11), (RX1, 62, yX11_by, RX11), (RX5, 107, yX11_by, RX11), (RX3, 35, yX11_by, RX11), (RX10, 55, yX11_by, RX11)]
theorem z_nest_in : ∀ q ∈ z_nest, Cond.methodLinkNest q.1 q.2.1 q.2.2.1 q.2.2.2 ∈ lw_tbl := by
  intro q hq
  unfold z_nest at hq
  simp only [List.mem_cons, List.not_mem_nil, or_false] at hq
  rcases hq with rfl | rfl | rfl | rfl | rfl | rfl | rfl | rfl | rfl | rfl | rfl | rfl | rfl | rfl | rfl | rfl | rfl | rfl | rfl
  · exact zin0_1 (List.mem_of_getElem? (i := 39) (by decide +kernel))
  · exact zin0_1 (List.mem_of_getElem? (i := 83) (by decide +kernel))
  · exact zin0_1 (List.mem_of_getElem? (i := 95) (by decide +kernel))
  · exact zin0_1 (List.mem_of_getElem? (i := 110) (by decide +kernel))
  · exact zin0_1 (List.mem_of_getElem? (i := 115) (by decide +kernel))
  · exact zin0_1 (List.mem_of_getElem? (i := 160) (by decide +kernel))
  · exact zin0_1 (List.mem_of_getElem? (i := 179) (by decide +kernel))
  · exact zin0_2 (List.mem_of_getElem? (i := 13) (by decide +kernel))
  · exact zin0_2 (List.mem_of_getElem? (i := 33) (by decide +kernel))
  · exact zin0_2 (List.mem_of_getElem? (i := 66) (by decide +kernel))
  · exact zin0_3 (List.mem_of_getElem? (i := 34) (by decide +kernel))
  · exact zin0_3 (List.mem_of_getElem? (i := 128) (by decide +kernel))
  · exact zin0_3 (List.mem_of_getElem? (i := 161) (by decide +kernel))
  · exact zin0_3 (List.mem_of_getElem? (i := 179) (by decide +kernel))
  · exact zin0_3 (List.mem_of_getElem? (i := 213) (by decide +kernel))
  · exact zin0_3 (List.mem_of_getElem? (i := 218) (by decide +kernel))
  · exact zin0_4 (List.mem_of_getElem? (i := 39) (by decide +kernel))
  · exact zin0_4 (List.mem_of_getElem? (i := 183) (by decide +kernel))
  · exact zin0_5 (List.mem_of_getElem? (i := 57) (by decide +kernel))
