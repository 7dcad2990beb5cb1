/-! words of the tables, by their places -/
theorem mh_in1 {i : Nat} {w : Cond} (h : tables_1_1[i]? = some w) (hg : goodWord w = true) : w ∈ mh_WT := by
  have hm : w ∈ tables_1_1 := List.mem_of_getElem? h
  exact List.mem_filter.mpr ⟨List.mem_append_right _ (List.mem_append_left _ hm), hg⟩
theorem mh_in2 {i : Nat} {w : Cond} (h : tables_1_2[i]? = some w) (hg : goodWord w = true) : w ∈ mh_WT := by
  have hm : w ∈ tables_1_2 := List.mem_of_getElem? h
  exact List.mem_filter.mpr ⟨List.mem_append_right _ (List.mem_append_right _ (List.mem_append_left _ hm)), hg⟩
theorem mh_in3 {i : Nat} {w : Cond} (h : tables_1_3[i]? = some w) (hg : goodWord w = true) : w ∈ mh_WT := by
  have hm : w ∈ tables_1_3 := List.mem_of_getElem? h
  exact List.mem_filter.mpr ⟨List.mem_append_right _ (List.mem_append_right _ (List.mem_append_right _ (List.mem_append_left _ hm))), hg⟩
theorem mh_in4 {i : Nat} {w : Cond} (h : tables_1_4[i]? = some w) (hg : goodWord w = true) : w ∈ mh_WT := by
  have hm : w ∈ tables_1_4 := List.mem_of_getElem? h
  exact List.mem_filter.mpr ⟨List.mem_append_right _ (List.mem_append_right _ (List.mem_append_right _ (List.mem_append_right _ (List.mem_append_left _ hm)))), hg⟩
theorem mh_in5 {i : Nat} {w : Cond} (h : tables_1_5[i]? = some w) (hg : goodWord w = true) : w ∈ mh_WT := by
  have hm : w ∈ tables_1_5 := List.mem_of_getElem? h
  exact List.mem_filter.mpr ⟨List.mem_append_right _ (List.mem_append_right _ (List.mem_append_right _ (List.mem_append_right _ (List.mem_append_right _ (List.mem_append_left _ hm))))), hg⟩
theorem mh_in6 {i : Nat} {w : Cond} (h : tables_1_6[i]? = some w) (hg : goodWord w = true) : w ∈ mh_WT := by
  have hm : w ∈ tables_1_6 := List.mem_of_getElem? h
  exact List.mem_filter.mpr ⟨List.mem_append_right _ (List.mem_append_right _ (List.mem_append_right _ (List.mem_append_right _ (List.mem_append_right _ (List.mem_append_right _ (List.mem_append_left _ hm)))))), hg⟩
theorem mh_in7 {i : Nat} {w : Cond} (h : tables_1_7[i]? = some w) (hg : goodWord w = true) : w ∈ mh_WT := by
  have hm : w ∈ tables_1_7 := List.mem_of_getElem? h
  exact List.mem_filter.mpr ⟨List.mem_append_right _ (List.mem_append_right _ (List.mem_append_right _ (List.mem_append_right _ (List.mem_append_right _ (List.mem_append_right _ (List.mem_append_right _ (hm))))))), hg⟩
theorem tw_1_0 : (Jvm.Cond.initialized "MilkHillsLaw") ∈ mh_WT := mh_in1 (i := 0) (by decide +kernel) rfl
theorem tw_1_1 : (Jvm.Cond.initialized "MilkHills") ∈ mh_WT := mh_in1 (i := 1) (by decide +kernel) rfl
theorem tw_1_2 : (Jvm.Cond.initialized "MilkHills$Kind") ∈ mh_WT := mh_in1 (i := 2) (by decide +kernel) rfl
theorem tw_1_3 : (Jvm.Cond.initialized "MilkHills$Goats") ∈ mh_WT := mh_in1 (i := 3) (by decide +kernel) rfl
theorem tw_1_4 : (Jvm.Cond.initialized "MilkHills$Lidded") ∈ mh_WT := mh_in1 (i := 4) (by decide +kernel) rfl
theorem tw_1_5 : (Jvm.Cond.initialized "MilkHills$Creamed") ∈ mh_WT := mh_in1 (i := 5) (by decide +kernel) rfl
theorem tw_1_6 : (Jvm.Cond.initialized "MilkHills$Running") ∈ mh_WT := mh_in1 (i := 6) (by decide +kernel) rfl
theorem tw_1_7 : (Jvm.Cond.initialized "MilkHills$Sealed") ∈ mh_WT := mh_in1 (i := 7) (by decide +kernel) rfl
theorem tw_1_8 : (Jvm.Cond.initialized "MilkHills$Old") ∈ mh_WT := mh_in1 (i := 8) (by decide +kernel) rfl
theorem tw_1_9 : (Jvm.Cond.initialized "MilkHills$Relays") ∈ mh_WT := mh_in1 (i := 9) (by decide +kernel) rfl
theorem tw_1_10 : (Jvm.Cond.initialized "MilkHills$World") ∈ mh_WT := mh_in1 (i := 10) (by decide +kernel) rfl
theorem tw_1_11 : (Jvm.Cond.initialized "MilkHills$Text") ∈ mh_WT := mh_in1 (i := 11) (by decide +kernel) rfl
theorem tw_1_12 : (Jvm.Cond.initialized "java/lang/String") ∈ mh_WT := mh_in1 (i := 12) (by decide +kernel) rfl
theorem tw_1_13 : (Jvm.Cond.initialized "java/lang/StringLatin1") ∈ mh_WT := mh_in1 (i := 13) (by decide +kernel) rfl
theorem tw_1_14 : (Jvm.Cond.initialized "jdk/internal/util/Preconditions") ∈ mh_WT := mh_in1 (i := 14) (by decide +kernel) rfl
theorem tw_1_15 : (Jvm.Cond.initialized "java/lang/StringUTF16") ∈ mh_WT := mh_in1 (i := 15) (by decide +kernel) rfl
theorem tw_1_16 : (Jvm.Cond.initialized "java/lang/Math") ∈ mh_WT := mh_in1 (i := 16) (by decide +kernel) rfl
theorem tw_1_17 : (Jvm.Cond.initialized "java/lang/Character") ∈ mh_WT := mh_in1 (i := 17) (by decide +kernel) rfl
theorem tw_1_18 : (Jvm.Cond.initialized "java/lang/System") ∈ mh_WT := mh_in1 (i := 18) (by decide +kernel) rfl
theorem tw_1_19 : (Jvm.Cond.initialized "java/util/Arrays") ∈ mh_WT := mh_in1 (i := 19) (by decide +kernel) rfl
theorem tw_1_20 : (Jvm.Cond.initialized "MilkHills$Churn") ∈ mh_WT := mh_in1 (i := 20) (by decide +kernel) rfl
theorem tw_1_21 : (Jvm.Cond.initialized "MilkHillsModel") ∈ mh_WT := mh_in1 (i := 21) (by decide +kernel) rfl
theorem tw_1_22 : (Jvm.Cond.classLink "MilkHillsLaw" (7 : Nat) "MilkHills") ∈ mh_WT := mh_in1 (i := 22) (by decide +kernel) rfl
theorem tw_1_23 : (Jvm.Cond.instantiable "MilkHills" (11 : Nat)) ∈ mh_WT := mh_in1 (i := 23) (by decide +kernel) rfl
theorem tw_1_24 : (Jvm.Cond.methodLink "MilkHillsLaw" (9 : Nat) ({ cls := "MilkHills", name := "<init>", desc := "()V" } : Jvm.MethodName)) ∈ mh_WT := mh_in1 (i := 24) (by decide +kernel) rfl
theorem tw_1_25 : (Jvm.Cond.instanceMethod ({ cls := "MilkHills", name := "<init>", desc := "()V" } : Jvm.MethodName)) ∈ mh_WT := mh_in1 (i := 25) (by decide +kernel) rfl
theorem tw_1_26 : (Jvm.Cond.code ({ cls := "MilkHills", name := "<init>", desc := "()V" } : Jvm.MethodName) prog_1_method_1_code (2 : Nat) (Option.none : Option Jvm.ClassFile.FieldType)) ∈ mh_WT := mh_in1 (i := 26) (by decide +kernel) rfl
theorem tw_1_27 : (Jvm.Cond.methodLink "MilkHills" (1 : Nat) ({ cls := "java/lang/Object", name := "<init>", desc := "()V" } : Jvm.MethodName)) ∈ mh_WT := mh_in1 (i := 27) (by decide +kernel) rfl
theorem tw_1_28 : (Jvm.Cond.instanceMethod ({ cls := "java/lang/Object", name := "<init>", desc := "()V" } : Jvm.MethodName)) ∈ mh_WT := mh_in1 (i := 28) (by decide +kernel) rfl
theorem tw_1_29 : (Jvm.Cond.code ({ cls := "java/lang/Object", name := "<init>", desc := "()V" } : Jvm.MethodName) object_method_1_code (1 : Nat) (Option.none : Option Jvm.ClassFile.FieldType)) ∈ mh_WT := mh_in1 (i := 29) (by decide +kernel) rfl
theorem tw_1_30 : (Jvm.Cond.classLink "MilkHills" (7 : Nat) "MilkHills$Kind") ∈ mh_WT := mh_in1 (i := 30) (by decide +kernel) rfl
theorem tw_1_32 : (Jvm.Cond.instantiable "MilkHills$Kind" (1 : Nat)) ∈ mh_WT := mh_in1 (i := 32) (by decide +kernel) rfl
theorem tw_1_33 : (Jvm.Cond.methodLink "MilkHills" (9 : Nat) ({ cls := "MilkHills$Kind", name := "<init>", desc := "(I)V" } : Jvm.MethodName)) ∈ mh_WT := mh_in1 (i := 33) (by decide +kernel) rfl
theorem tw_1_34 : (Jvm.Cond.instanceMethod ({ cls := "MilkHills$Kind", name := "<init>", desc := "(I)V" } : Jvm.MethodName)) ∈ mh_WT := mh_in1 (i := 34) (by decide +kernel) rfl
theorem tw_1_35 : (Jvm.Cond.code ({ cls := "MilkHills$Kind", name := "<init>", desc := "(I)V" } : Jvm.MethodName) prog_5_method_1_code (2 : Nat) (Option.none : Option Jvm.ClassFile.FieldType)) ∈ mh_WT := mh_in1 (i := 35) (by decide +kernel) rfl
theorem tw_1_36 : (Jvm.Cond.methodLink "MilkHills$Kind" (3 : Nat) ({ cls := "java/lang/Object", name := "<init>", desc := "()V" } : Jvm.MethodName)) ∈ mh_WT := mh_in1 (i := 36) (by decide +kernel) rfl
theorem tw_1_37 : (Jvm.Cond.fieldLink "MilkHills$Kind" (9 : Nat) "MilkHills$Kind" "number" "I") ∈ mh_WT := mh_in1 (i := 37) (by decide +kernel) rfl
theorem tw_1_38 : (Jvm.Cond.fieldLink "MilkHills" (145 : Nat) "MilkHills$Kind" "number" "I") ∈ mh_WT := mh_in1 (i := 38) (by decide +kernel) rfl
theorem tw_1_39 : (Jvm.Cond.fieldLink "MilkHills$Churn" (67 : Nat) "MilkHills$Kind" "number" "I") ∈ mh_WT := mh_in1 (i := 39) (by decide +kernel) rfl
theorem tw_1_42 : (Jvm.Cond.superclass "MilkHills$Kind" "java/lang/Object") ∈ mh_WT := mh_in1 (i := 42) (by decide +kernel) rfl
theorem tw_1_43 : (Jvm.Cond.classLink "MilkHills" (12 : Nat) "MilkHills$Goats") ∈ mh_WT := mh_in1 (i := 43) (by decide +kernel) rfl
theorem tw_1_44 : (Jvm.Cond.instantiable "MilkHills$Goats" (1 : Nat)) ∈ mh_WT := mh_in1 (i := 44) (by decide +kernel) rfl
theorem tw_1_45 : (Jvm.Cond.methodLink "MilkHills" (14 : Nat) ({ cls := "MilkHills$Goats", name := "<init>", desc := "(I)V" } : Jvm.MethodName)) ∈ mh_WT := mh_in1 (i := 45) (by decide +kernel) rfl
theorem tw_1_46 : (Jvm.Cond.instanceMethod ({ cls := "MilkHills$Goats", name := "<init>", desc := "(I)V" } : Jvm.MethodName)) ∈ mh_WT := mh_in1 (i := 46) (by decide +kernel) rfl
theorem tw_1_47 : (Jvm.Cond.code ({ cls := "MilkHills$Goats", name := "<init>", desc := "(I)V" } : Jvm.MethodName) prog_4_method_1_code (2 : Nat) (Option.none : Option Jvm.ClassFile.FieldType)) ∈ mh_WT := mh_in1 (i := 47) (by decide +kernel) rfl
theorem tw_1_48 : (Jvm.Cond.methodLink "MilkHills$Goats" (1 : Nat) ({ cls := "MilkHills$Kind", name := "<init>", desc := "(I)V" } : Jvm.MethodName)) ∈ mh_WT := mh_in1 (i := 48) (by decide +kernel) rfl
theorem tw_1_50 : (Jvm.Cond.superclass "MilkHills$Goats" "MilkHills$Kind") ∈ mh_WT := mh_in1 (i := 50) (by decide +kernel) rfl
theorem tw_1_51 : (Jvm.Cond.classLink "MilkHills" (15 : Nat) "MilkHills$Lidded") ∈ mh_WT := mh_in1 (i := 51) (by decide +kernel) rfl
theorem tw_1_52 : (Jvm.Cond.instantiable "MilkHills$Lidded" (1 : Nat)) ∈ mh_WT := mh_in1 (i := 52) (by decide +kernel) rfl
theorem tw_1_53 : (Jvm.Cond.methodLink "MilkHills" (17 : Nat) ({ cls := "MilkHills$Lidded", name := "<init>", desc := "(I)V" } : Jvm.MethodName)) ∈ mh_WT := mh_in1 (i := 53) (by decide +kernel) rfl
theorem tw_1_54 : (Jvm.Cond.instanceMethod ({ cls := "MilkHills$Lidded", name := "<init>", desc := "(I)V" } : Jvm.MethodName)) ∈ mh_WT := mh_in1 (i := 54) (by decide +kernel) rfl
theorem tw_1_55 : (Jvm.Cond.code ({ cls := "MilkHills$Lidded", name := "<init>", desc := "(I)V" } : Jvm.MethodName) prog_6_method_1_code (2 : Nat) (Option.none : Option Jvm.ClassFile.FieldType)) ∈ mh_WT := mh_in1 (i := 55) (by decide +kernel) rfl
theorem tw_1_56 : (Jvm.Cond.methodLink "MilkHills$Lidded" (1 : Nat) ({ cls := "MilkHills$Kind", name := "<init>", desc := "(I)V" } : Jvm.MethodName)) ∈ mh_WT := mh_in1 (i := 56) (by decide +kernel) rfl
theorem tw_1_58 : (Jvm.Cond.superclass "MilkHills$Lidded" "MilkHills$Kind") ∈ mh_WT := mh_in1 (i := 58) (by decide +kernel) rfl
theorem tw_1_59 : (Jvm.Cond.classLink "MilkHills" (18 : Nat) "MilkHills$Creamed") ∈ mh_WT := mh_in1 (i := 59) (by decide +kernel) rfl
theorem tw_1_60 : (Jvm.Cond.instantiable "MilkHills$Creamed" (1 : Nat)) ∈ mh_WT := mh_in1 (i := 60) (by decide +kernel) rfl
theorem tw_1_61 : (Jvm.Cond.methodLink "MilkHills" (20 : Nat) ({ cls := "MilkHills$Creamed", name := "<init>", desc := "(I)V" } : Jvm.MethodName)) ∈ mh_WT := mh_in1 (i := 61) (by decide +kernel) rfl
theorem tw_1_62 : (Jvm.Cond.instanceMethod ({ cls := "MilkHills$Creamed", name := "<init>", desc := "(I)V" } : Jvm.MethodName)) ∈ mh_WT := mh_in1 (i := 62) (by decide +kernel) rfl
theorem tw_1_63 : (Jvm.Cond.code ({ cls := "MilkHills$Creamed", name := "<init>", desc := "(I)V" } : Jvm.MethodName) prog_3_method_1_code (2 : Nat) (Option.none : Option Jvm.ClassFile.FieldType)) ∈ mh_WT := mh_in1 (i := 63) (by decide +kernel) rfl
theorem tw_1_64 : (Jvm.Cond.methodLink "MilkHills$Creamed" (1 : Nat) ({ cls := "MilkHills$Kind", name := "<init>", desc := "(I)V" } : Jvm.MethodName)) ∈ mh_WT := mh_in1 (i := 64) (by decide +kernel) rfl
theorem tw_1_66 : (Jvm.Cond.superclass "MilkHills$Creamed" "MilkHills$Kind") ∈ mh_WT := mh_in1 (i := 66) (by decide +kernel) rfl
theorem tw_1_67 : (Jvm.Cond.classLink "MilkHills" (21 : Nat) "MilkHills$Running") ∈ mh_WT := mh_in1 (i := 67) (by decide +kernel) rfl
theorem tw_1_68 : (Jvm.Cond.instantiable "MilkHills$Running" (1 : Nat)) ∈ mh_WT := mh_in1 (i := 68) (by decide +kernel) rfl
theorem tw_1_69 : (Jvm.Cond.methodLink "MilkHills" (23 : Nat) ({ cls := "MilkHills$Running", name := "<init>", desc := "(I)V" } : Jvm.MethodName)) ∈ mh_WT := mh_in1 (i := 69) (by decide +kernel) rfl
theorem tw_1_70 : (Jvm.Cond.instanceMethod ({ cls := "MilkHills$Running", name := "<init>", desc := "(I)V" } : Jvm.MethodName)) ∈ mh_WT := mh_in1 (i := 70) (by decide +kernel) rfl
theorem tw_1_71 : (Jvm.Cond.code ({ cls := "MilkHills$Running", name := "<init>", desc := "(I)V" } : Jvm.MethodName) prog_9_method_1_code (2 : Nat) (Option.none : Option Jvm.ClassFile.FieldType)) ∈ mh_WT := mh_in1 (i := 71) (by decide +kernel) rfl
theorem tw_1_72 : (Jvm.Cond.methodLink "MilkHills$Running" (1 : Nat) ({ cls := "MilkHills$Goats", name := "<init>", desc := "(I)V" } : Jvm.MethodName)) ∈ mh_WT := mh_in1 (i := 72) (by decide +kernel) rfl
theorem tw_1_74 : (Jvm.Cond.superclass "MilkHills$Running" "MilkHills$Goats") ∈ mh_WT := mh_in1 (i := 74) (by decide +kernel) rfl
theorem tw_1_75 : (Jvm.Cond.classLink "MilkHills" (24 : Nat) "MilkHills$Sealed") ∈ mh_WT := mh_in1 (i := 75) (by decide +kernel) rfl
theorem tw_1_76 : (Jvm.Cond.instantiable "MilkHills$Sealed" (1 : Nat)) ∈ mh_WT := mh_in1 (i := 76) (by decide +kernel) rfl
theorem tw_1_77 : (Jvm.Cond.methodLink "MilkHills" (26 : Nat) ({ cls := "MilkHills$Sealed", name := "<init>", desc := "(I)V" } : Jvm.MethodName)) ∈ mh_WT := mh_in1 (i := 77) (by decide +kernel) rfl
theorem tw_1_78 : (Jvm.Cond.instanceMethod ({ cls := "MilkHills$Sealed", name := "<init>", desc := "(I)V" } : Jvm.MethodName)) ∈ mh_WT := mh_in1 (i := 78) (by decide +kernel) rfl
theorem tw_1_79 : (Jvm.Cond.code ({ cls := "MilkHills$Sealed", name := "<init>", desc := "(I)V" } : Jvm.MethodName) prog_10_method_1_code (2 : Nat) (Option.none : Option Jvm.ClassFile.FieldType)) ∈ mh_WT := mh_in1 (i := 79) (by decide +kernel) rfl
theorem tw_1_80 : (Jvm.Cond.methodLink "MilkHills$Sealed" (1 : Nat) ({ cls := "MilkHills$Lidded", name := "<init>", desc := "(I)V" } : Jvm.MethodName)) ∈ mh_WT := mh_in1 (i := 80) (by decide +kernel) rfl
theorem tw_1_82 : (Jvm.Cond.superclass "MilkHills$Sealed" "MilkHills$Lidded") ∈ mh_WT := mh_in1 (i := 82) (by decide +kernel) rfl
theorem tw_1_83 : (Jvm.Cond.classLink "MilkHills" (27 : Nat) "MilkHills$Old") ∈ mh_WT := mh_in1 (i := 83) (by decide +kernel) rfl
theorem tw_1_84 : (Jvm.Cond.instantiable "MilkHills$Old" (1 : Nat)) ∈ mh_WT := mh_in1 (i := 84) (by decide +kernel) rfl
theorem tw_1_85 : (Jvm.Cond.methodLink "MilkHills" (29 : Nat) ({ cls := "MilkHills$Old", name := "<init>", desc := "(I)V" } : Jvm.MethodName)) ∈ mh_WT := mh_in1 (i := 85) (by decide +kernel) rfl
theorem tw_1_86 : (Jvm.Cond.instanceMethod ({ cls := "MilkHills$Old", name := "<init>", desc := "(I)V" } : Jvm.MethodName)) ∈ mh_WT := mh_in1 (i := 86) (by decide +kernel) rfl
theorem tw_1_87 : (Jvm.Cond.code ({ cls := "MilkHills$Old", name := "<init>", desc := "(I)V" } : Jvm.MethodName) prog_7_method_1_code (2 : Nat) (Option.none : Option Jvm.ClassFile.FieldType)) ∈ mh_WT := mh_in1 (i := 87) (by decide +kernel) rfl
theorem tw_1_88 : (Jvm.Cond.methodLink "MilkHills$Old" (1 : Nat) ({ cls := "MilkHills$Creamed", name := "<init>", desc := "(I)V" } : Jvm.MethodName)) ∈ mh_WT := mh_in1 (i := 88) (by decide +kernel) rfl
theorem tw_1_90 : (Jvm.Cond.superclass "MilkHills$Old" "MilkHills$Creamed") ∈ mh_WT := mh_in1 (i := 90) (by decide +kernel) rfl
theorem tw_1_91 : (Jvm.Cond.classLink "MilkHills" (36 : Nat) "MilkHills$Churn") ∈ mh_WT := mh_in1 (i := 91) (by decide +kernel) rfl
theorem tw_1_93 : (Jvm.Cond.classLink "MilkHills" (42 : Nat) "MilkHills$Relays") ∈ mh_WT := mh_in1 (i := 93) (by decide +kernel) rfl
theorem tw_1_94 : (Jvm.Cond.instantiable "MilkHills$Relays" (11 : Nat)) ∈ mh_WT := mh_in1 (i := 94) (by decide +kernel) rfl
theorem tw_1_96 : (Jvm.Cond.instanceMethod ({ cls := "MilkHills$Relays", name := "<init>", desc := "()V" } : Jvm.MethodName)) ∈ mh_WT := mh_in1 (i := 96) (by decide +kernel) rfl
theorem tw_1_97 : (Jvm.Cond.code ({ cls := "MilkHills$Relays", name := "<init>", desc := "()V" } : Jvm.MethodName) prog_8_method_1_code (1 : Nat) (Option.none : Option Jvm.ClassFile.FieldType)) ∈ mh_WT := mh_in1 (i := 97) (by decide +kernel) rfl
theorem tw_1_98 : (Jvm.Cond.methodLink "MilkHills$Relays" (5 : Nat) ({ cls := "java/lang/Object", name := "<init>", desc := "()V" } : Jvm.MethodName)) ∈ mh_WT := mh_in1 (i := 98) (by decide +kernel) rfl
theorem tw_1_99 : (Jvm.Cond.constant "MilkHills$Relays" (11 : Nat) (32940 : Int32)) ∈ mh_WT := mh_in1 (i := 99) (by decide +kernel) rfl
theorem tw_1_100 : (Jvm.Cond.fieldLink "MilkHills$Relays" (12 : Nat) "MilkHills$Relays" "found" "[I") ∈ mh_WT := mh_in1 (i := 100) (by decide +kernel) rfl
theorem tw_1_101 : (Jvm.Cond.fieldLink "MilkHills$Relays" (16 : Nat) "MilkHills$Relays" "sums" "[I") ∈ mh_WT := mh_in1 (i := 101) (by decide +kernel) rfl
theorem tw_1_102 : (Jvm.Cond.fieldLink "MilkHills$Relays" (19 : Nat) "MilkHills$Relays" "cool" "[Z") ∈ mh_WT := mh_in1 (i := 102) (by decide +kernel) rfl
theorem tw_1_103 : (Jvm.Cond.fieldLink "MilkHills$Relays" (23 : Nat) "MilkHills$Relays" "paces" "[I") ∈ mh_WT := mh_in1 (i := 103) (by decide +kernel) rfl
theorem tw_1_104 : (Jvm.Cond.fieldLink "MilkHills$Relays" (26 : Nat) "MilkHills$Relays" "jolts" "[I") ∈ mh_WT := mh_in1 (i := 104) (by decide +kernel) rfl
theorem tw_1_105 : (Jvm.Cond.fieldLink "MilkHills$Relays" (38 : Nat) "MilkHills$Relays" "by" "I") ∈ mh_WT := mh_in1 (i := 105) (by decide +kernel) rfl
theorem tw_1_106 : (Jvm.Cond.fieldLink "MilkHills$Relays" (73 : Nat) "MilkHills$Relays" "quickest" "I") ∈ mh_WT := mh_in1 (i := 106) (by decide +kernel) rfl
theorem tw_1_107 : (Jvm.Cond.fieldLink "MilkHills$Relays" (47 : Nat) "MilkHills$Relays" "first" "I") ∈ mh_WT := mh_in1 (i := 107) (by decide +kernel) rfl
theorem tw_1_108 : (Jvm.Cond.fieldLink "MilkHills$Relays" (53 : Nat) "MilkHills$Relays" "sour" "I") ∈ mh_WT := mh_in1 (i := 108) (by decide +kernel) rfl
theorem tw_1_109 : (Jvm.Cond.fieldLink "MilkHills$Relays" (57 : Nat) "MilkHills$Relays" "shaken" "I") ∈ mh_WT := mh_in1 (i := 109) (by decide +kernel) rfl
theorem tw_1_110 : (Jvm.Cond.fieldLink "MilkHills$Relays" (71 : Nat) "MilkHills$Relays" "turns" "I") ∈ mh_WT := mh_in1 (i := 110) (by decide +kernel) rfl
theorem tw_1_133 : (Jvm.Cond.superclass "MilkHills$Relays" "java/lang/Object") ∈ mh_WT := mh_in1 (i := 133) (by decide +kernel) rfl
theorem tw_1_134 : (Jvm.Cond.arrayClass Jvm.ClassFile.FieldType.int) ∈ mh_WT := mh_in1 (i := 134) (by decide +kernel) rfl
theorem tw_1_135 : (Jvm.Cond.arrayClass Jvm.ClassFile.FieldType.boolean) ∈ mh_WT := mh_in1 (i := 135) (by decide +kernel) rfl
theorem tw_1_136 : (Jvm.Cond.classLink "MilkHills" (53 : Nat) "[[I") ∈ mh_WT := mh_in1 (i := 136) (by decide +kernel) rfl
theorem tw_1_138 : (Jvm.Cond.classLink "MilkHills" (67 : Nat) "MilkHills$World") ∈ mh_WT := mh_in1 (i := 138) (by decide +kernel) rfl
theorem tw_1_139 : (Jvm.Cond.instantiable "MilkHills$World" (16 : Nat)) ∈ mh_WT := mh_in1 (i := 139) (by decide +kernel) rfl
theorem tw_1_140 : (Jvm.Cond.methodLink "MilkHills" (69 : Nat) ({ cls := "MilkHills$World", name := "<init>", desc := "(LMilkHills$Kind;)V" } : Jvm.MethodName)) ∈ mh_WT := mh_in1 (i := 140) (by decide +kernel) rfl
theorem tw_1_141 : (Jvm.Cond.instanceMethod ({ cls := "MilkHills$World", name := "<init>", desc := "(LMilkHills$Kind;)V" } : Jvm.MethodName)) ∈ mh_WT := mh_in1 (i := 141) (by decide +kernel) rfl
theorem tw_1_142 : (Jvm.Cond.code ({ cls := "MilkHills$World", name := "<init>", desc := "(LMilkHills$Kind;)V" } : Jvm.MethodName) prog_12_method_1_code (3 : Nat) (Option.none : Option Jvm.ClassFile.FieldType)) ∈ mh_WT := mh_in1 (i := 142) (by decide +kernel) rfl
theorem tw_1_143 : (Jvm.Cond.methodLink "MilkHills$World" (3 : Nat) ({ cls := "java/lang/Object", name := "<init>", desc := "()V" } : Jvm.MethodName)) ∈ mh_WT := mh_in1 (i := 143) (by decide +kernel) rfl
theorem tw_1_144 : (Jvm.Cond.classLink "MilkHills$World" (27 : Nat) "MilkHills$Churn") ∈ mh_WT := mh_in1 (i := 144) (by decide +kernel) rfl
theorem tw_1_145 : (Jvm.Cond.classLink "MilkHills$World" (37 : Nat) "MilkHills$Text") ∈ mh_WT := mh_in1 (i := 145) (by decide +kernel) rfl
theorem tw_1_146 : (Jvm.Cond.instantiable "MilkHills$Text" (10 : Nat)) ∈ mh_WT := mh_in1 (i := 146) (by decide +kernel) rfl
theorem tw_1_149 : (Jvm.Cond.methodLink "MilkHills$World" (43 : Nat) ({ cls := "MilkHills$Text", name := "<init>", desc := "(Ljava/lang/String;Ljava/lang/String;I)V" } : Jvm.MethodName)) ∈ mh_WT := mh_in1 (i := 149) (by decide +kernel) rfl
theorem tw_1_150 : (Jvm.Cond.instanceMethod ({ cls := "MilkHills$Text", name := "<init>", desc := "(Ljava/lang/String;Ljava/lang/String;I)V" } : Jvm.MethodName)) ∈ mh_WT := mh_in1 (i := 150) (by decide +kernel) rfl
theorem tw_1_151 : (Jvm.Cond.code ({ cls := "MilkHills$Text", name := "<init>", desc := "(Ljava/lang/String;Ljava/lang/String;I)V" } : Jvm.MethodName) prog_11_method_1_code (6 : Nat) (Option.none : Option Jvm.ClassFile.FieldType)) ∈ mh_WT := mh_in1 (i := 151) (by decide +kernel) rfl
theorem tw_1_152 : (Jvm.Cond.methodLink "MilkHills$Text" (3 : Nat) ({ cls := "java/lang/Object", name := "<init>", desc := "()V" } : Jvm.MethodName)) ∈ mh_WT := mh_in1 (i := 152) (by decide +kernel) rfl
theorem tw_1_153 : (Jvm.Cond.methodLink "MilkHills$Text" (29 : Nat) ({ cls := "java/lang/String", name := "length", desc := "()I" } : Jvm.MethodName)) ∈ mh_WT := mh_in1 (i := 153) (by decide +kernel) rfl
theorem tw_1_154 : (Jvm.Cond.instanceMethod ({ cls := "java/lang/String", name := "length", desc := "()I" } : Jvm.MethodName)) ∈ mh_WT := mh_in1 (i := 154) (by decide +kernel) rfl
theorem tw_1_155 : (Jvm.Cond.selects "java/lang/String" ({ cls := "java/lang/String", name := "length", desc := "()I" } : Jvm.MethodName) ({ cls := "java/lang/String", name := "length", desc := "()I" } : Jvm.MethodName)) ∈ mh_WT := mh_in1 (i := 155) (by decide +kernel) rfl
theorem tw_1_156 : (Jvm.Cond.code ({ cls := "java/lang/String", name := "length", desc := "()I" } : Jvm.MethodName) prog_17_method_54_code (1 : Nat) (Option.some Jvm.ClassFile.FieldType.int)) ∈ mh_WT := mh_in1 (i := 156) (by decide +kernel) rfl
theorem tw_1_157 : (Jvm.Cond.methodLink "java/lang/String" (335 : Nat) ({ cls := "java/lang/String", name := "coder", desc := "()B" } : Jvm.MethodName)) ∈ mh_WT := mh_in1 (i := 157) (by decide +kernel) rfl
theorem tw_1_158 : (Jvm.Cond.instanceMethod ({ cls := "java/lang/String", name := "coder", desc := "()B" } : Jvm.MethodName)) ∈ mh_WT := mh_in1 (i := 158) (by decide +kernel) rfl
theorem tw_1_159 : (Jvm.Cond.selects "java/lang/String" ({ cls := "java/lang/String", name := "coder", desc := "()B" } : Jvm.MethodName) ({ cls := "java/lang/String", name := "coder", desc := "()B" } : Jvm.MethodName)) ∈ mh_WT := mh_in1 (i := 159) (by decide +kernel) rfl
theorem tw_1_160 : (Jvm.Cond.code ({ cls := "java/lang/String", name := "coder", desc := "()B" } : Jvm.MethodName) prog_17_method_152_code (1 : Nat) (Option.some Jvm.ClassFile.FieldType.byte)) ∈ mh_WT := mh_in1 (i := 160) (by decide +kernel) rfl
theorem tw_1_161 : (Jvm.Cond.fieldLink "java/lang/String" (38 : Nat) "java/lang/String" "COMPACT_STRINGS" "Z") ∈ mh_WT := mh_in1 (i := 161) (by decide +kernel) rfl
theorem tw_1_163 : (Jvm.Cond.methodLink "MilkHills$Text" (35 : Nat) ({ cls := "java/lang/String", name := "charAt", desc := "(I)C" } : Jvm.MethodName)) ∈ mh_WT := mh_in1 (i := 163) (by decide +kernel) rfl
theorem tw_1_164 : (Jvm.Cond.instanceMethod ({ cls := "java/lang/String", name := "charAt", desc := "(I)C" } : Jvm.MethodName)) ∈ mh_WT := mh_in1 (i := 164) (by decide +kernel) rfl
theorem tw_1_165 : (Jvm.Cond.selects "java/lang/String" ({ cls := "java/lang/String", name := "charAt", desc := "(I)C" } : Jvm.MethodName) ({ cls := "java/lang/String", name := "charAt", desc := "(I)C" } : Jvm.MethodName)) ∈ mh_WT := mh_in1 (i := 165) (by decide +kernel) rfl
theorem tw_1_166 : (Jvm.Cond.code ({ cls := "java/lang/String", name := "charAt", desc := "(I)C" } : Jvm.MethodName) prog_17_method_56_code (2 : Nat) (Option.some Jvm.ClassFile.FieldType.char)) ∈ mh_WT := mh_in1 (i := 166) (by decide +kernel) rfl
theorem tw_1_167 : (Jvm.Cond.methodLink "java/lang/String" (492 : Nat) ({ cls := "java/lang/String", name := "isLatin1", desc := "()Z" } : Jvm.MethodName)) ∈ mh_WT := mh_in1 (i := 167) (by decide +kernel) rfl
theorem tw_1_168 : (Jvm.Cond.instanceMethod ({ cls := "java/lang/String", name := "isLatin1", desc := "()Z" } : Jvm.MethodName)) ∈ mh_WT := mh_in1 (i := 168) (by decide +kernel) rfl
theorem tw_1_169 : (Jvm.Cond.selects "java/lang/String" ({ cls := "java/lang/String", name := "isLatin1", desc := "()Z" } : Jvm.MethodName) ({ cls := "java/lang/String", name := "isLatin1", desc := "()Z" } : Jvm.MethodName)) ∈ mh_WT := mh_in1 (i := 169) (by decide +kernel) rfl
theorem tw_1_170 : (Jvm.Cond.code ({ cls := "java/lang/String", name := "isLatin1", desc := "()Z" } : Jvm.MethodName) prog_17_method_154_code (1 : Nat) (Option.some Jvm.ClassFile.FieldType.boolean)) ∈ mh_WT := mh_in1 (i := 170) (by decide +kernel) rfl
theorem tw_1_171 : (Jvm.Cond.methodLink "java/lang/String" (495 : Nat) ({ cls := "java/lang/StringLatin1", name := "charAt", desc := "([BI)C" } : Jvm.MethodName)) ∈ mh_WT := mh_in1 (i := 171) (by decide +kernel) rfl
theorem tw_1_172 : (Jvm.Cond.static ({ cls := "java/lang/StringLatin1", name := "charAt", desc := "([BI)C" } : Jvm.MethodName)) ∈ mh_WT := mh_in1 (i := 172) (by decide +kernel) rfl
theorem tw_1_173 : (Jvm.Cond.code ({ cls := "java/lang/StringLatin1", name := "charAt", desc := "([BI)C" } : Jvm.MethodName) prog_18_method_2_code (2 : Nat) (Option.some Jvm.ClassFile.FieldType.char)) ∈ mh_WT := mh_in1 (i := 173) (by decide +kernel) rfl
theorem tw_1_174 : (Jvm.Cond.methodLink "java/lang/StringLatin1" (9 : Nat) ({ cls := "java/lang/String", name := "checkIndex", desc := "(II)V" } : Jvm.MethodName)) ∈ mh_WT := mh_in1 (i := 174) (by decide +kernel) rfl
theorem tw_1_175 : (Jvm.Cond.static ({ cls := "java/lang/String", name := "checkIndex", desc := "(II)V" } : Jvm.MethodName)) ∈ mh_WT := mh_in1 (i := 175) (by decide +kernel) rfl
theorem tw_1_176 : (Jvm.Cond.code ({ cls := "java/lang/String", name := "checkIndex", desc := "(II)V" } : Jvm.MethodName) prog_17_method_155_code (2 : Nat) (Option.none : Option Jvm.ClassFile.FieldType)) ∈ mh_WT := mh_in1 (i := 176) (by decide +kernel) rfl
theorem tw_1_177 : (Jvm.Cond.fieldLink "java/lang/String" (1053 : Nat) "jdk/internal/util/Preconditions" "SIOOBE_FORMATTER" "Ljava/util/function/BiFunction;") ∈ mh_WT := mh_in1 (i := 177) (by decide +kernel) rfl
theorem tw_1_179 : (Jvm.Cond.methodLink "java/lang/String" (1059 : Nat) ({ cls := "jdk/internal/util/Preconditions", name := "checkIndex", desc := "(IILjava/util/function/BiFunction;)I" } : Jvm.MethodName)) ∈ mh_WT := mh_in1 (i := 179) (by decide +kernel) rfl
theorem tw_1_180 : (Jvm.Cond.static ({ cls := "jdk/internal/util/Preconditions", name := "checkIndex", desc := "(IILjava/util/function/BiFunction;)I" } : Jvm.MethodName)) ∈ mh_WT := mh_in1 (i := 180) (by decide +kernel) rfl
theorem tw_1_181 : (Jvm.Cond.code ({ cls := "jdk/internal/util/Preconditions", name := "checkIndex", desc := "(IILjava/util/function/BiFunction;)I" } : Jvm.MethodName) prog_22_method_11_code (3 : Nat) (Option.some Jvm.ClassFile.FieldType.int)) ∈ mh_WT := mh_in1 (i := 181) (by decide +kernel) rfl
theorem tw_1_182 : (Jvm.Cond.methodLink "java/lang/String" (498 : Nat) ({ cls := "java/lang/StringUTF16", name := "charAt", desc := "([BI)C" } : Jvm.MethodName)) ∈ mh_WT := mh_in1 (i := 182) (by decide +kernel) rfl
theorem tw_1_183 : (Jvm.Cond.static ({ cls := "java/lang/StringUTF16", name := "charAt", desc := "([BI)C" } : Jvm.MethodName)) ∈ mh_WT := mh_in1 (i := 183) (by decide +kernel) rfl
theorem tw_1_184 : (Jvm.Cond.code ({ cls := "java/lang/StringUTF16", name := "charAt", desc := "([BI)C" } : Jvm.MethodName) prog_19_method_83_code (2 : Nat) (Option.some Jvm.ClassFile.FieldType.char)) ∈ mh_WT := mh_in1 (i := 184) (by decide +kernel) rfl
theorem tw_1_185 : (Jvm.Cond.methodLink "java/lang/StringUTF16" (67 : Nat) ({ cls := "java/lang/StringUTF16", name := "checkIndex", desc := "(I[B)V" } : Jvm.MethodName)) ∈ mh_WT := mh_in1 (i := 185) (by decide +kernel) rfl
theorem tw_1_186 : (Jvm.Cond.static ({ cls := "java/lang/StringUTF16", name := "checkIndex", desc := "(I[B)V" } : Jvm.MethodName)) ∈ mh_WT := mh_in1 (i := 186) (by decide +kernel) rfl
theorem tw_1_187 : (Jvm.Cond.code ({ cls := "java/lang/StringUTF16", name := "checkIndex", desc := "(I[B)V" } : Jvm.MethodName) prog_19_method_91_code (2 : Nat) (Option.none : Option Jvm.ClassFile.FieldType)) ∈ mh_WT := mh_in1 (i := 187) (by decide +kernel) rfl
theorem tw_1_188 : (Jvm.Cond.methodLink "java/lang/StringUTF16" (48 : Nat) ({ cls := "java/lang/StringUTF16", name := "length", desc := "([B)I" } : Jvm.MethodName)) ∈ mh_WT := mh_in1 (i := 188) (by decide +kernel) rfl
theorem tw_1_189 : (Jvm.Cond.static ({ cls := "java/lang/StringUTF16", name := "length", desc := "([B)I" } : Jvm.MethodName)) ∈ mh_WT := mh_in1 (i := 189) (by decide +kernel) rfl
theorem tw_1_190 : (Jvm.Cond.code ({ cls := "java/lang/StringUTF16", name := "length", desc := "([B)I" } : Jvm.MethodName) prog_19_method_6_code (1 : Nat) (Option.some Jvm.ClassFile.FieldType.int)) ∈ mh_WT := mh_in1 (i := 190) (by decide +kernel) rfl
theorem tw_1_191 : (Jvm.Cond.methodLink "java/lang/StringUTF16" (414 : Nat) ({ cls := "java/lang/String", name := "checkIndex", desc := "(II)V" } : Jvm.MethodName)) ∈ mh_WT := mh_in1 (i := 191) (by decide +kernel) rfl
theorem tw_1_192 : (Jvm.Cond.methodLink "java/lang/StringUTF16" (71 : Nat) ({ cls := "java/lang/StringUTF16", name := "getChar", desc := "([BI)C" } : Jvm.MethodName)) ∈ mh_WT := mh_in1 (i := 192) (by decide +kernel) rfl
theorem tw_1_193 : (Jvm.Cond.static ({ cls := "java/lang/StringUTF16", name := "getChar", desc := "([BI)C" } : Jvm.MethodName)) ∈ mh_WT := mh_in1 (i := 193) (by decide +kernel) rfl
theorem tw_1_194 : (Jvm.Cond.code ({ cls := "java/lang/StringUTF16", name := "getChar", desc := "([BI)C" } : Jvm.MethodName) prog_19_method_5_code (2 : Nat) (Option.some Jvm.ClassFile.FieldType.char)) ∈ mh_WT := mh_in1 (i := 194) (by decide +kernel) rfl
theorem tw_1_195 : (Jvm.Cond.fieldLink "java/lang/StringUTF16" (44 : Nat) "java/lang/StringUTF16" "$assertionsDisabled" "Z") ∈ mh_WT := mh_in1 (i := 195) (by decide +kernel) rfl
theorem tw_1_197 : (Jvm.Cond.fieldLink "java/lang/StringUTF16" (59 : Nat) "java/lang/StringUTF16" "HI_BYTE_SHIFT" "I") ∈ mh_WT := mh_in1 (i := 197) (by decide +kernel) rfl
theorem tw_1_199 : (Jvm.Cond.fieldLink "java/lang/StringUTF16" (63 : Nat) "java/lang/StringUTF16" "LO_BYTE_SHIFT" "I") ∈ mh_WT := mh_in1 (i := 199) (by decide +kernel) rfl
theorem tw_1_201 : (Jvm.Cond.methodLink "MilkHills$Text" (39 : Nat) ({ cls := "MilkHills$Text", name := "read", desc := "([BI)I" } : Jvm.MethodName)) ∈ mh_WT := mh_in1 (i := 201) (by decide +kernel) rfl
theorem tw_1_202 : (Jvm.Cond.instanceMethod ({ cls := "MilkHills$Text", name := "read", desc := "([BI)I" } : Jvm.MethodName)) ∈ mh_WT := mh_in1 (i := 202) (by decide +kernel) rfl
theorem tw_1_203 : (Jvm.Cond.selects "MilkHills$Text" ({ cls := "MilkHills$Text", name := "read", desc := "([BI)I" } : Jvm.MethodName) ({ cls := "MilkHills$Text", name := "read", desc := "([BI)I" } : Jvm.MethodName)) ∈ mh_WT := mh_in1 (i := 203) (by decide +kernel) rfl
theorem tw_1_204 : (Jvm.Cond.code ({ cls := "MilkHills$Text", name := "read", desc := "([BI)I" } : Jvm.MethodName) prog_11_method_3_code (3 : Nat) (Option.some Jvm.ClassFile.FieldType.int)) ∈ mh_WT := mh_in1 (i := 204) (by decide +kernel) rfl
theorem tw_1_205 : (Jvm.Cond.methodLink "MilkHills$Text" (55 : Nat) ({ cls := "java/lang/Math", name := "min", desc := "(II)I" } : Jvm.MethodName)) ∈ mh_WT := mh_in1 (i := 205) (by decide +kernel) rfl
theorem tw_1_206 : (Jvm.Cond.static ({ cls := "java/lang/Math", name := "min", desc := "(II)I" } : Jvm.MethodName)) ∈ mh_WT := mh_in1 (i := 206) (by decide +kernel) rfl
theorem tw_1_207 : (Jvm.Cond.code ({ cls := "java/lang/Math", name := "min", desc := "(II)I" } : Jvm.MethodName) prog_16_method_69_code (2 : Nat) (Option.some Jvm.ClassFile.FieldType.int)) ∈ mh_WT := mh_in1 (i := 207) (by decide +kernel) rfl
theorem tw_1_208 : (Jvm.Cond.methodLink "MilkHills$Text" (61 : Nat) ({ cls := "java/lang/Math", name := "max", desc := "(II)I" } : Jvm.MethodName)) ∈ mh_WT := mh_in1 (i := 208) (by decide +kernel) rfl
theorem tw_1_209 : (Jvm.Cond.static ({ cls := "java/lang/Math", name := "max", desc := "(II)I" } : Jvm.MethodName)) ∈ mh_WT := mh_in1 (i := 209) (by decide +kernel) rfl
theorem tw_1_210 : (Jvm.Cond.code ({ cls := "java/lang/Math", name := "max", desc := "(II)I" } : Jvm.MethodName) prog_16_method_65_code (2 : Nat) (Option.some Jvm.ClassFile.FieldType.int)) ∈ mh_WT := mh_in1 (i := 210) (by decide +kernel) rfl
theorem tw_1_211 : (Jvm.Cond.methodLink "MilkHills$Text" (73 : Nat) ({ cls := "MilkHills$Text", name := "readAny", desc := "(I)Z" } : Jvm.MethodName)) ∈ mh_WT := mh_in1 (i := 211) (by decide +kernel) rfl
theorem tw_1_213 : (Jvm.Cond.instanceMethod ({ cls := "MilkHills$Text", name := "readAny", desc := "(I)Z" } : Jvm.MethodName)) ∈ mh_WT := mh_in1 (i := 213) (by decide +kernel) rfl
theorem tw_1_214 : (Jvm.Cond.code ({ cls := "MilkHills$Text", name := "readAny", desc := "(I)Z" } : Jvm.MethodName) prog_11_method_7_code (4 : Nat) (Option.some Jvm.ClassFile.FieldType.boolean)) ∈ mh_WT := mh_in1 (i := 214) (by decide +kernel) rfl
theorem tw_1_215 : (Jvm.Cond.methodLink "MilkHills$Text" (85 : Nat) ({ cls := "MilkHills$Text", name := "readAll", desc := "(I)Z" } : Jvm.MethodName)) ∈ mh_WT := mh_in1 (i := 215) (by decide +kernel) rfl
theorem tw_1_217 : (Jvm.Cond.instanceMethod ({ cls := "MilkHills$Text", name := "readAll", desc := "(I)Z" } : Jvm.MethodName)) ∈ mh_WT := mh_in1 (i := 217) (by decide +kernel) rfl
theorem tw_1_218 : (Jvm.Cond.code ({ cls := "MilkHills$Text", name := "readAll", desc := "(I)Z" } : Jvm.MethodName) prog_11_method_8_code (4 : Nat) (Option.some Jvm.ClassFile.FieldType.boolean)) ∈ mh_WT := mh_in1 (i := 218) (by decide +kernel) rfl
theorem tw_1_219 : (Jvm.Cond.methodLink "MilkHills$Text" (96 : Nat) ({ cls := "MilkHills$Text", name := "readCompared", desc := "(I)Z" } : Jvm.MethodName)) ∈ mh_WT := mh_in1 (i := 219) (by decide +kernel) rfl
theorem tw_1_221 : (Jvm.Cond.instanceMethod ({ cls := "MilkHills$Text", name := "readCompared", desc := "(I)Z" } : Jvm.MethodName)) ∈ mh_WT := mh_in1 (i := 221) (by decide +kernel) rfl
theorem tw_1_222 : (Jvm.Cond.code ({ cls := "MilkHills$Text", name := "readCompared", desc := "(I)Z" } : Jvm.MethodName) prog_11_method_9_code (4 : Nat) (Option.some Jvm.ClassFile.FieldType.boolean)) ∈ mh_WT := mh_in1 (i := 222) (by decide +kernel) rfl
theorem tw_1_223 : (Jvm.Cond.methodLink "MilkHills$Text" (99 : Nat) ({ cls := "MilkHills$Text", name := "readSum", desc := "(I)Z" } : Jvm.MethodName)) ∈ mh_WT := mh_in1 (i := 223) (by decide +kernel) rfl
theorem tw_1_225 : (Jvm.Cond.instanceMethod ({ cls := "MilkHills$Text", name := "readSum", desc := "(I)Z" } : Jvm.MethodName)) ∈ mh_WT := mh_in1 (i := 225) (by decide +kernel) rfl
theorem tw_1_226 : (Jvm.Cond.code ({ cls := "MilkHills$Text", name := "readSum", desc := "(I)Z" } : Jvm.MethodName) prog_11_method_10_code (5 : Nat) (Option.some Jvm.ClassFile.FieldType.boolean)) ∈ mh_WT := mh_in1 (i := 226) (by decide +kernel) rfl
theorem tw_1_227 : (Jvm.Cond.methodLink "MilkHills$Text" (105 : Nat) ({ cls := "MilkHills$Text", name := "readProduct", desc := "(I)Z" } : Jvm.MethodName)) ∈ mh_WT := mh_in1 (i := 227) (by decide +kernel) rfl
theorem tw_1_229 : (Jvm.Cond.instanceMethod ({ cls := "MilkHills$Text", name := "readProduct", desc := "(I)Z" } : Jvm.MethodName)) ∈ mh_WT := mh_in1 (i := 229) (by decide +kernel) rfl
theorem tw_1_230 : (Jvm.Cond.code ({ cls := "MilkHills$Text", name := "readProduct", desc := "(I)Z" } : Jvm.MethodName) prog_11_method_11_code (5 : Nat) (Option.some Jvm.ClassFile.FieldType.boolean)) ∈ mh_WT := mh_in1 (i := 230) (by decide +kernel) rfl
theorem tw_1_231 : (Jvm.Cond.methodLink "MilkHills$Text" (108 : Nat) ({ cls := "MilkHills$Text", name := "readSingle", desc := "(I)Z" } : Jvm.MethodName)) ∈ mh_WT := mh_in1 (i := 231) (by decide +kernel) rfl
theorem tw_1_233 : (Jvm.Cond.instanceMethod ({ cls := "MilkHills$Text", name := "readSingle", desc := "(I)Z" } : Jvm.MethodName)) ∈ mh_WT := mh_in1 (i := 233) (by decide +kernel) rfl
theorem tw_1_234 : (Jvm.Cond.code ({ cls := "MilkHills$Text", name := "readSingle", desc := "(I)Z" } : Jvm.MethodName) prog_11_method_12_code (3 : Nat) (Option.some Jvm.ClassFile.FieldType.boolean)) ∈ mh_WT := mh_in1 (i := 234) (by decide +kernel) rfl
theorem tw_1_235 : (Jvm.Cond.methodLink "MilkHills$Text" (111 : Nat) ({ cls := "MilkHills$Text", name := "seesDigit", desc := "()Z" } : Jvm.MethodName)) ∈ mh_WT := mh_in1 (i := 235) (by decide +kernel) rfl
theorem tw_1_237 : (Jvm.Cond.instanceMethod ({ cls := "MilkHills$Text", name := "seesDigit", desc := "()Z" } : Jvm.MethodName)) ∈ mh_WT := mh_in1 (i := 237) (by decide +kernel) rfl
theorem tw_1_238 : (Jvm.Cond.code ({ cls := "MilkHills$Text", name := "seesDigit", desc := "()Z" } : Jvm.MethodName) prog_11_method_17_code (1 : Nat) (Option.some Jvm.ClassFile.FieldType.boolean)) ∈ mh_WT := mh_in1 (i := 238) (by decide +kernel) rfl
theorem tw_1_239 : (Jvm.Cond.methodLink "MilkHills$Text" (102 : Nat) ({ cls := "MilkHills$Text", name := "next", desc := "()I" } : Jvm.MethodName)) ∈ mh_WT := mh_in1 (i := 239) (by decide +kernel) rfl
theorem tw_2_1 : (Jvm.Cond.instanceMethod ({ cls := "MilkHills$Text", name := "next", desc := "()I" } : Jvm.MethodName)) ∈ mh_WT := mh_in2 (i := 1) (by decide +kernel) rfl
theorem tw_2_2 : (Jvm.Cond.code ({ cls := "MilkHills$Text", name := "next", desc := "()I" } : Jvm.MethodName) prog_11_method_15_code (1 : Nat) (Option.some Jvm.ClassFile.FieldType.int)) ∈ mh_WT := mh_in2 (i := 2) (by decide +kernel) rfl
theorem tw_2_3 : (Jvm.Cond.methodLink "MilkHills$Text" (115 : Nat) ({ cls := "MilkHills$Text", name := "readNumber", desc := "()V" } : Jvm.MethodName)) ∈ mh_WT := mh_in2 (i := 3) (by decide +kernel) rfl
theorem tw_2_5 : (Jvm.Cond.instanceMethod ({ cls := "MilkHills$Text", name := "readNumber", desc := "()V" } : Jvm.MethodName)) ∈ mh_WT := mh_in2 (i := 5) (by decide +kernel) rfl
theorem tw_2_6 : (Jvm.Cond.code ({ cls := "MilkHills$Text", name := "readNumber", desc := "()V" } : Jvm.MethodName) prog_11_method_14_code (3 : Nat) (Option.none : Option Jvm.ClassFile.FieldType)) ∈ mh_WT := mh_in2 (i := 6) (by decide +kernel) rfl
theorem tw_2_7 : (Jvm.Cond.methodLink "MilkHills$Text" (92 : Nat) ({ cls := "MilkHills$Text", name := "write", desc := "(I)V" } : Jvm.MethodName)) ∈ mh_WT := mh_in2 (i := 7) (by decide +kernel) rfl
theorem tw_2_9 : (Jvm.Cond.instanceMethod ({ cls := "MilkHills$Text", name := "write", desc := "(I)V" } : Jvm.MethodName)) ∈ mh_WT := mh_in2 (i := 9) (by decide +kernel) rfl
theorem tw_2_10 : (Jvm.Cond.code ({ cls := "MilkHills$Text", name := "write", desc := "(I)V" } : Jvm.MethodName) prog_11_method_18_code (2 : Nat) (Option.none : Option Jvm.ClassFile.FieldType)) ∈ mh_WT := mh_in2 (i := 10) (by decide +kernel) rfl
theorem tw_2_11 : (Jvm.Cond.methodLink "MilkHills$Text" (88 : Nat) ({ cls := "MilkHills$Text", name := "sees", desc := "(C)Z" } : Jvm.MethodName)) ∈ mh_WT := mh_in2 (i := 11) (by decide +kernel) rfl
theorem tw_2_13 : (Jvm.Cond.instanceMethod ({ cls := "MilkHills$Text", name := "sees", desc := "(C)Z" } : Jvm.MethodName)) ∈ mh_WT := mh_in2 (i := 13) (by decide +kernel) rfl
theorem tw_2_14 : (Jvm.Cond.code ({ cls := "MilkHills$Text", name := "sees", desc := "(C)Z" } : Jvm.MethodName) prog_11_method_16_code (2 : Nat) (Option.some Jvm.ClassFile.FieldType.boolean)) ∈ mh_WT := mh_in2 (i := 14) (by decide +kernel) rfl
theorem tw_2_15 : (Jvm.Cond.methodLink "MilkHills$Text" (118 : Nat) ({ cls := "MilkHills$Text", name := "readOpened", desc := "(I)Z" } : Jvm.MethodName)) ∈ mh_WT := mh_in2 (i := 15) (by decide +kernel) rfl
theorem tw_2_17 : (Jvm.Cond.instanceMethod ({ cls := "MilkHills$Text", name := "readOpened", desc := "(I)Z" } : Jvm.MethodName)) ∈ mh_WT := mh_in2 (i := 17) (by decide +kernel) rfl
theorem tw_2_18 : (Jvm.Cond.code ({ cls := "MilkHills$Text", name := "readOpened", desc := "(I)Z" } : Jvm.MethodName) prog_11_method_13_code (4 : Nat) (Option.some Jvm.ClassFile.FieldType.boolean)) ∈ mh_WT := mh_in2 (i := 18) (by decide +kernel) rfl
theorem tw_2_19 : (Jvm.Cond.methodLink "MilkHills$Text" (121 : Nat) ({ cls := "java/lang/String", name := "indexOf", desc := "(I)I" } : Jvm.MethodName)) ∈ mh_WT := mh_in2 (i := 19) (by decide +kernel) rfl
theorem tw_2_20 : (Jvm.Cond.instanceMethod ({ cls := "java/lang/String", name := "indexOf", desc := "(I)I" } : Jvm.MethodName)) ∈ mh_WT := mh_in2 (i := 20) (by decide +kernel) rfl
theorem tw_2_21 : (Jvm.Cond.selects "java/lang/String" ({ cls := "java/lang/String", name := "indexOf", desc := "(I)I" } : Jvm.MethodName) ({ cls := "java/lang/String", name := "indexOf", desc := "(I)I" } : Jvm.MethodName)) ∈ mh_WT := mh_in2 (i := 21) (by decide +kernel) rfl
theorem tw_2_22 : (Jvm.Cond.code ({ cls := "java/lang/String", name := "indexOf", desc := "(I)I" } : Jvm.MethodName) prog_17_method_79_code (2 : Nat) (Option.some Jvm.ClassFile.FieldType.int)) ∈ mh_WT := mh_in2 (i := 22) (by decide +kernel) rfl
theorem tw_2_23 : (Jvm.Cond.methodLink "java/lang/String" (633 : Nat) ({ cls := "java/lang/String", name := "indexOf", desc := "(II)I" } : Jvm.MethodName)) ∈ mh_WT := mh_in2 (i := 23) (by decide +kernel) rfl
theorem tw_2_24 : (Jvm.Cond.instanceMethod ({ cls := "java/lang/String", name := "indexOf", desc := "(II)I" } : Jvm.MethodName)) ∈ mh_WT := mh_in2 (i := 24) (by decide +kernel) rfl
theorem tw_2_25 : (Jvm.Cond.selects "java/lang/String" ({ cls := "java/lang/String", name := "indexOf", desc := "(II)I" } : Jvm.MethodName) ({ cls := "java/lang/String", name := "indexOf", desc := "(II)I" } : Jvm.MethodName)) ∈ mh_WT := mh_in2 (i := 25) (by decide +kernel) rfl
theorem tw_2_26 : (Jvm.Cond.code ({ cls := "java/lang/String", name := "indexOf", desc := "(II)I" } : Jvm.MethodName) prog_17_method_80_code (3 : Nat) (Option.some Jvm.ClassFile.FieldType.int)) ∈ mh_WT := mh_in2 (i := 26) (by decide +kernel) rfl
theorem tw_2_27 : (Jvm.Cond.methodLink "java/lang/String" (505 : Nat) ({ cls := "java/lang/String", name := "length", desc := "()I" } : Jvm.MethodName)) ∈ mh_WT := mh_in2 (i := 27) (by decide +kernel) rfl
theorem tw_2_28 : (Jvm.Cond.methodLink "java/lang/String" (637 : Nat) ({ cls := "java/lang/StringLatin1", name := "indexOf", desc := "([BIII)I" } : Jvm.MethodName)) ∈ mh_WT := mh_in2 (i := 28) (by decide +kernel) rfl
theorem tw_2_29 : (Jvm.Cond.static ({ cls := "java/lang/StringLatin1", name := "indexOf", desc := "([BIII)I" } : Jvm.MethodName)) ∈ mh_WT := mh_in2 (i := 29) (by decide +kernel) rfl
theorem tw_2_30 : (Jvm.Cond.code ({ cls := "java/lang/StringLatin1", name := "indexOf", desc := "([BIII)I" } : Jvm.MethodName) prog_18_method_22_code (4 : Nat) (Option.some Jvm.ClassFile.FieldType.int)) ∈ mh_WT := mh_in2 (i := 30) (by decide +kernel) rfl
theorem tw_2_31 : (Jvm.Cond.methodLink "java/lang/StringLatin1" (88 : Nat) ({ cls := "java/lang/StringLatin1", name := "canEncode", desc := "(I)Z" } : Jvm.MethodName)) ∈ mh_WT := mh_in2 (i := 31) (by decide +kernel) rfl
theorem tw_2_32 : (Jvm.Cond.static ({ cls := "java/lang/StringLatin1", name := "canEncode", desc := "(I)Z" } : Jvm.MethodName)) ∈ mh_WT := mh_in2 (i := 32) (by decide +kernel) rfl
theorem tw_2_33 : (Jvm.Cond.code ({ cls := "java/lang/StringLatin1", name := "canEncode", desc := "(I)Z" } : Jvm.MethodName) prog_18_method_4_code (1 : Nat) (Option.some Jvm.ClassFile.FieldType.boolean)) ∈ mh_WT := mh_in2 (i := 33) (by decide +kernel) rfl
theorem tw_2_34 : (Jvm.Cond.methodLink "java/lang/StringLatin1" (92 : Nat) ({ cls := "java/lang/Math", name := "max", desc := "(II)I" } : Jvm.MethodName)) ∈ mh_WT := mh_in2 (i := 34) (by decide +kernel) rfl
theorem tw_2_35 : (Jvm.Cond.methodLink "java/lang/StringLatin1" (38 : Nat) ({ cls := "java/lang/Math", name := "min", desc := "(II)I" } : Jvm.MethodName)) ∈ mh_WT := mh_in2 (i := 35) (by decide +kernel) rfl
theorem tw_2_36 : (Jvm.Cond.methodLink "java/lang/StringLatin1" (95 : Nat) ({ cls := "java/lang/StringLatin1", name := "indexOfChar", desc := "([BIII)I" } : Jvm.MethodName)) ∈ mh_WT := mh_in2 (i := 36) (by decide +kernel) rfl
theorem tw_2_37 : (Jvm.Cond.static ({ cls := "java/lang/StringLatin1", name := "indexOfChar", desc := "([BIII)I" } : Jvm.MethodName)) ∈ mh_WT := mh_in2 (i := 37) (by decide +kernel) rfl
theorem tw_2_38 : (Jvm.Cond.code ({ cls := "java/lang/StringLatin1", name := "indexOfChar", desc := "([BIII)I" } : Jvm.MethodName) prog_18_method_23_code (6 : Nat) (Option.some Jvm.ClassFile.FieldType.int)) ∈ mh_WT := mh_in2 (i := 38) (by decide +kernel) rfl
theorem tw_2_39 : (Jvm.Cond.methodLink "java/lang/String" (640 : Nat) ({ cls := "java/lang/StringUTF16", name := "indexOf", desc := "([BIII)I" } : Jvm.MethodName)) ∈ mh_WT := mh_in2 (i := 39) (by decide +kernel) rfl
theorem tw_2_40 : (Jvm.Cond.static ({ cls := "java/lang/StringUTF16", name := "indexOf", desc := "([BIII)I" } : Jvm.MethodName)) ∈ mh_WT := mh_in2 (i := 40) (by decide +kernel) rfl
theorem tw_2_41 : (Jvm.Cond.code ({ cls := "java/lang/StringUTF16", name := "indexOf", desc := "([BIII)I" } : Jvm.MethodName) prog_19_method_40_code (4 : Nat) (Option.some Jvm.ClassFile.FieldType.int)) ∈ mh_WT := mh_in2 (i := 41) (by decide +kernel) rfl
theorem tw_2_42 : (Jvm.Cond.methodLink "java/lang/StringUTF16" (224 : Nat) ({ cls := "java/lang/Math", name := "max", desc := "(II)I" } : Jvm.MethodName)) ∈ mh_WT := mh_in2 (i := 42) (by decide +kernel) rfl
theorem tw_2_43 : (Jvm.Cond.methodLink "java/lang/StringUTF16" (183 : Nat) ({ cls := "java/lang/Math", name := "min", desc := "(II)I" } : Jvm.MethodName)) ∈ mh_WT := mh_in2 (i := 43) (by decide +kernel) rfl
theorem tw_2_44 : (Jvm.Cond.constant "java/lang/StringUTF16" (227 : Nat) (65536 : Int32)) ∈ mh_WT := mh_in2 (i := 44) (by decide +kernel) rfl
theorem tw_2_45 : (Jvm.Cond.methodLink "java/lang/StringUTF16" (228 : Nat) ({ cls := "java/lang/StringUTF16", name := "indexOfChar", desc := "([BIII)I" } : Jvm.MethodName)) ∈ mh_WT := mh_in2 (i := 45) (by decide +kernel) rfl
theorem tw_2_46 : (Jvm.Cond.static ({ cls := "java/lang/StringUTF16", name := "indexOfChar", desc := "([BIII)I" } : Jvm.MethodName)) ∈ mh_WT := mh_in2 (i := 46) (by decide +kernel) rfl
theorem tw_2_47 : (Jvm.Cond.code ({ cls := "java/lang/StringUTF16", name := "indexOfChar", desc := "([BIII)I" } : Jvm.MethodName) prog_19_method_47_code (4 : Nat) (Option.some Jvm.ClassFile.FieldType.int)) ∈ mh_WT := mh_in2 (i := 47) (by decide +kernel) rfl
theorem tw_2_48 : (Jvm.Cond.methodLink "java/lang/StringUTF16" (96 : Nat) ({ cls := "java/lang/StringUTF16", name := "checkBoundsBeginEnd", desc := "(II[B)V" } : Jvm.MethodName)) ∈ mh_WT := mh_in2 (i := 48) (by decide +kernel) rfl
theorem tw_2_49 : (Jvm.Cond.static ({ cls := "java/lang/StringUTF16", name := "checkBoundsBeginEnd", desc := "(II[B)V" } : Jvm.MethodName)) ∈ mh_WT := mh_in2 (i := 49) (by decide +kernel) rfl
theorem tw_2_50 : (Jvm.Cond.code ({ cls := "java/lang/StringUTF16", name := "checkBoundsBeginEnd", desc := "(II[B)V" } : Jvm.MethodName) prog_19_method_93_code (3 : Nat) (Option.none : Option Jvm.ClassFile.FieldType)) ∈ mh_WT := mh_in2 (i := 50) (by decide +kernel) rfl
theorem tw_2_51 : (Jvm.Cond.methodLink "java/lang/StringUTF16" (241 : Nat) ({ cls := "java/lang/String", name := "checkBoundsBeginEnd", desc := "(III)V" } : Jvm.MethodName)) ∈ mh_WT := mh_in2 (i := 51) (by decide +kernel) rfl
theorem tw_2_52 : (Jvm.Cond.static ({ cls := "java/lang/String", name := "checkBoundsBeginEnd", desc := "(III)V" } : Jvm.MethodName)) ∈ mh_WT := mh_in2 (i := 52) (by decide +kernel) rfl
theorem tw_2_53 : (Jvm.Cond.code ({ cls := "java/lang/String", name := "checkBoundsBeginEnd", desc := "(III)V" } : Jvm.MethodName) prog_17_method_158_code (3 : Nat) (Option.none : Option Jvm.ClassFile.FieldType)) ∈ mh_WT := mh_in2 (i := 53) (by decide +kernel) rfl
theorem tw_2_54 : (Jvm.Cond.methodLink "java/lang/String" (1062 : Nat) ({ cls := "jdk/internal/util/Preconditions", name := "checkFromToIndex", desc := "(IIILjava/util/function/BiFunction;)I" } : Jvm.MethodName)) ∈ mh_WT := mh_in2 (i := 54) (by decide +kernel) rfl
theorem tw_2_55 : (Jvm.Cond.static ({ cls := "jdk/internal/util/Preconditions", name := "checkFromToIndex", desc := "(IIILjava/util/function/BiFunction;)I" } : Jvm.MethodName)) ∈ mh_WT := mh_in2 (i := 55) (by decide +kernel) rfl
theorem tw_2_56 : (Jvm.Cond.code ({ cls := "jdk/internal/util/Preconditions", name := "checkFromToIndex", desc := "(IIILjava/util/function/BiFunction;)I" } : Jvm.MethodName) prog_22_method_12_code (4 : Nat) (Option.some Jvm.ClassFile.FieldType.int)) ∈ mh_WT := mh_in2 (i := 56) (by decide +kernel) rfl
theorem tw_2_57 : (Jvm.Cond.methodLink "java/lang/StringUTF16" (244 : Nat) ({ cls := "java/lang/StringUTF16", name := "indexOfCharUnsafe", desc := "([BIII)I" } : Jvm.MethodName)) ∈ mh_WT := mh_in2 (i := 57) (by decide +kernel) rfl
theorem tw_2_58 : (Jvm.Cond.static ({ cls := "java/lang/StringUTF16", name := "indexOfCharUnsafe", desc := "([BIII)I" } : Jvm.MethodName)) ∈ mh_WT := mh_in2 (i := 58) (by decide +kernel) rfl
theorem tw_2_59 : (Jvm.Cond.code ({ cls := "java/lang/StringUTF16", name := "indexOfCharUnsafe", desc := "([BIII)I" } : Jvm.MethodName) prog_19_method_48_code (5 : Nat) (Option.some Jvm.ClassFile.FieldType.int)) ∈ mh_WT := mh_in2 (i := 59) (by decide +kernel) rfl
theorem tw_2_60 : (Jvm.Cond.methodLink "java/lang/StringUTF16" (232 : Nat) ({ cls := "java/lang/StringUTF16", name := "indexOfSupplementary", desc := "([BIII)I" } : Jvm.MethodName)) ∈ mh_WT := mh_in2 (i := 60) (by decide +kernel) rfl
theorem tw_2_61 : (Jvm.Cond.static ({ cls := "java/lang/StringUTF16", name := "indexOfSupplementary", desc := "([BIII)I" } : Jvm.MethodName)) ∈ mh_WT := mh_in2 (i := 61) (by decide +kernel) rfl
theorem tw_2_62 : (Jvm.Cond.code ({ cls := "java/lang/StringUTF16", name := "indexOfSupplementary", desc := "([BIII)I" } : Jvm.MethodName) prog_19_method_49_code (7 : Nat) (Option.some Jvm.ClassFile.FieldType.int)) ∈ mh_WT := mh_in2 (i := 62) (by decide +kernel) rfl
theorem tw_2_63 : (Jvm.Cond.methodLink "java/lang/StringUTF16" (164 : Nat) ({ cls := "java/lang/Character", name := "isValidCodePoint", desc := "(I)Z" } : Jvm.MethodName)) ∈ mh_WT := mh_in2 (i := 63) (by decide +kernel) rfl
theorem tw_2_64 : (Jvm.Cond.static ({ cls := "java/lang/Character", name := "isValidCodePoint", desc := "(I)Z" } : Jvm.MethodName)) ∈ mh_WT := mh_in2 (i := 64) (by decide +kernel) rfl
theorem tw_2_65 : (Jvm.Cond.code ({ cls := "java/lang/Character", name := "isValidCodePoint", desc := "(I)Z" } : Jvm.MethodName) prog_15_method_11_code (2 : Nat) (Option.some Jvm.ClassFile.FieldType.boolean)) ∈ mh_WT := mh_in2 (i := 65) (by decide +kernel) rfl
theorem tw_2_66 : (Jvm.Cond.methodLink "java/lang/StringUTF16" (157 : Nat) ({ cls := "java/lang/Character", name := "highSurrogate", desc := "(I)C" } : Jvm.MethodName)) ∈ mh_WT := mh_in2 (i := 66) (by decide +kernel) rfl
theorem tw_2_67 : (Jvm.Cond.static ({ cls := "java/lang/Character", name := "highSurrogate", desc := "(I)C" } : Jvm.MethodName)) ∈ mh_WT := mh_in2 (i := 67) (by decide +kernel) rfl
theorem tw_2_68 : (Jvm.Cond.code ({ cls := "java/lang/Character", name := "highSurrogate", desc := "(I)C" } : Jvm.MethodName) prog_15_method_28_code (1 : Nat) (Option.some Jvm.ClassFile.FieldType.char)) ∈ mh_WT := mh_in2 (i := 68) (by decide +kernel) rfl
theorem tw_2_69 : (Jvm.Cond.constant "java/lang/Character" (110 : Nat) (55232 : Int32)) ∈ mh_WT := mh_in2 (i := 69) (by decide +kernel) rfl
theorem tw_2_70 : (Jvm.Cond.methodLink "java/lang/StringUTF16" (161 : Nat) ({ cls := "java/lang/Character", name := "lowSurrogate", desc := "(I)C" } : Jvm.MethodName)) ∈ mh_WT := mh_in2 (i := 70) (by decide +kernel) rfl
theorem tw_2_71 : (Jvm.Cond.static ({ cls := "java/lang/Character", name := "lowSurrogate", desc := "(I)C" } : Jvm.MethodName)) ∈ mh_WT := mh_in2 (i := 71) (by decide +kernel) rfl
theorem tw_2_72 : (Jvm.Cond.code ({ cls := "java/lang/Character", name := "lowSurrogate", desc := "(I)C" } : Jvm.MethodName) prog_15_method_29_code (1 : Nat) (Option.some Jvm.ClassFile.FieldType.char)) ∈ mh_WT := mh_in2 (i := 72) (by decide +kernel) rfl
theorem tw_2_73 : (Jvm.Cond.constant "java/lang/Character" (76 : Nat) (56320 : Int32)) ∈ mh_WT := mh_in2 (i := 73) (by decide +kernel) rfl
theorem tw_2_74 : (Jvm.Cond.methodLink "MilkHills$Text" (43 : Nat) ({ cls := "java/lang/System", name := "arraycopy", desc := "(Ljava/lang/Object;ILjava/lang/Object;II)V" } : Jvm.MethodName)) ∈ mh_WT := mh_in2 (i := 74) (by decide +kernel) rfl
theorem tw_2_75 : (Jvm.Cond.static ({ cls := "java/lang/System", name := "arraycopy", desc := "(Ljava/lang/Object;ILjava/lang/Object;II)V" } : Jvm.MethodName)) ∈ mh_WT := mh_in2 (i := 75) (by decide +kernel) rfl
theorem tw_2_77 : (Jvm.Cond.fieldLink "MilkHills$Text" (21 : Nat) "MilkHills$Text" "names" "Ljava/lang/String;") ∈ mh_WT := mh_in2 (i := 77) (by decide +kernel) rfl
theorem tw_2_78 : (Jvm.Cond.fieldLink "MilkHills$Text" (25 : Nat) "MilkHills$Text" "most" "I") ∈ mh_WT := mh_in2 (i := 78) (by decide +kernel) rfl
theorem tw_2_79 : (Jvm.Cond.fieldLink "MilkHills$Text" (9 : Nat) "MilkHills$Text" "code" "[I") ∈ mh_WT := mh_in2 (i := 79) (by decide +kernel) rfl
theorem tw_2_80 : (Jvm.Cond.fieldLink "MilkHills$Text" (49 : Nat) "MilkHills$Text" "length" "I") ∈ mh_WT := mh_in2 (i := 80) (by decide +kernel) rfl
theorem tw_2_81 : (Jvm.Cond.fieldLink "MilkHills$Text" (15 : Nat) "MilkHills$Text" "draft" "[I") ∈ mh_WT := mh_in2 (i := 81) (by decide +kernel) rfl
theorem tw_2_82 : (Jvm.Cond.fieldLink "MilkHills$Text" (70 : Nat) "MilkHills$Text" "drafted" "I") ∈ mh_WT := mh_in2 (i := 82) (by decide +kernel) rfl
theorem tw_2_83 : (Jvm.Cond.fieldLink "MilkHills$Text" (18 : Nat) "MilkHills$Text" "stack" "[I") ∈ mh_WT := mh_in2 (i := 83) (by decide +kernel) rfl
theorem tw_2_84 : (Jvm.Cond.fieldLink "MilkHills$Text" (51 : Nat) "MilkHills$Text" "tape" "[B") ∈ mh_WT := mh_in2 (i := 84) (by decide +kernel) rfl
theorem tw_2_85 : (Jvm.Cond.fieldLink "MilkHills$Text" (64 : Nat) "MilkHills$Text" "bytes" "I") ∈ mh_WT := mh_in2 (i := 85) (by decide +kernel) rfl
theorem tw_2_86 : (Jvm.Cond.fieldLink "MilkHills$Text" (67 : Nat) "MilkHills$Text" "place" "I") ∈ mh_WT := mh_in2 (i := 86) (by decide +kernel) rfl
theorem tw_2_107 : (Jvm.Cond.superclass "MilkHills$Text" "java/lang/Object") ∈ mh_WT := mh_in2 (i := 107) (by decide +kernel) rfl
theorem tw_2_108 : (Jvm.Cond.arrayClass Jvm.ClassFile.FieldType.byte) ∈ mh_WT := mh_in2 (i := 108) (by decide +kernel) rfl
theorem tw_2_111 : (Jvm.Cond.methodLink "MilkHills$World" (64 : Nat) ({ cls := "java/util/Arrays", name := "fill", desc := "([II)V" } : Jvm.MethodName)) ∈ mh_WT := mh_in2 (i := 111) (by decide +kernel) rfl
theorem tw_2_112 : (Jvm.Cond.static ({ cls := "java/util/Arrays", name := "fill", desc := "([II)V" } : Jvm.MethodName)) ∈ mh_WT := mh_in2 (i := 112) (by decide +kernel) rfl
theorem tw_2_113 : (Jvm.Cond.code ({ cls := "java/util/Arrays", name := "fill", desc := "([II)V" } : Jvm.MethodName) prog_21_method_103_code (4 : Nat) (Option.none : Option Jvm.ClassFile.FieldType)) ∈ mh_WT := mh_in2 (i := 113) (by decide +kernel) rfl
theorem tw_2_114 : (Jvm.Cond.instantiable "MilkHills$Churn" (10 : Nat)) ∈ mh_WT := mh_in2 (i := 114) (by decide +kernel) rfl
theorem tw_2_115 : (Jvm.Cond.methodLink "MilkHills$World" (70 : Nat) ({ cls := "MilkHills$Churn", name := "<init>", desc := "(ILMilkHills$Kind;)V" } : Jvm.MethodName)) ∈ mh_WT := mh_in2 (i := 115) (by decide +kernel) rfl
theorem tw_2_116 : (Jvm.Cond.instanceMethod ({ cls := "MilkHills$Churn", name := "<init>", desc := "(ILMilkHills$Kind;)V" } : Jvm.MethodName)) ∈ mh_WT := mh_in2 (i := 116) (by decide +kernel) rfl
theorem tw_2_117 : (Jvm.Cond.code ({ cls := "MilkHills$Churn", name := "<init>", desc := "(ILMilkHills$Kind;)V" } : Jvm.MethodName) prog_2_method_1_code (3 : Nat) (Option.none : Option Jvm.ClassFile.FieldType)) ∈ mh_WT := mh_in2 (i := 117) (by decide +kernel) rfl
theorem tw_2_118 : (Jvm.Cond.methodLink "MilkHills$Churn" (3 : Nat) ({ cls := "java/lang/Object", name := "<init>", desc := "()V" } : Jvm.MethodName)) ∈ mh_WT := mh_in2 (i := 118) (by decide +kernel) rfl
theorem tw_2_119 : (Jvm.Cond.fieldLink "MilkHills$Churn" (9 : Nat) "MilkHills$Churn" "number" "I") ∈ mh_WT := mh_in2 (i := 119) (by decide +kernel) rfl
theorem tw_2_120 : (Jvm.Cond.fieldLink "MilkHills$Old" (24 : Nat) "MilkHills$Churn" "number" "I") ∈ mh_WT := mh_in2 (i := 120) (by decide +kernel) rfl
theorem tw_2_121 : (Jvm.Cond.fieldLink "MilkHills$Kind" (19 : Nat) "MilkHills$Churn" "number" "I") ∈ mh_WT := mh_in2 (i := 121) (by decide +kernel) rfl
theorem tw_2_122 : (Jvm.Cond.fieldLink "MilkHills$Churn" (15 : Nat) "MilkHills$Churn" "kind" "LMilkHills$Kind;") ∈ mh_WT := mh_in2 (i := 122) (by decide +kernel) rfl
theorem tw_2_123 : (Jvm.Cond.fieldLink "MilkHills$Relays" (58 : Nat) "MilkHills$Churn" "kind" "LMilkHills$Kind;") ∈ mh_WT := mh_in2 (i := 123) (by decide +kernel) rfl
theorem tw_2_124 : (Jvm.Cond.fieldLink "MilkHills$Goats" (21 : Nat) "MilkHills$Churn" "kind" "LMilkHills$Kind;") ∈ mh_WT := mh_in2 (i := 124) (by decide +kernel) rfl
theorem tw_2_125 : (Jvm.Cond.fieldLink "MilkHills$Sealed" (30 : Nat) "MilkHills$Churn" "kind" "LMilkHills$Kind;") ∈ mh_WT := mh_in2 (i := 125) (by decide +kernel) rfl
theorem tw_2_126 : (Jvm.Cond.fieldLink "MilkHills$Old" (30 : Nat) "MilkHills$Churn" "kind" "LMilkHills$Kind;") ∈ mh_WT := mh_in2 (i := 126) (by decide +kernel) rfl
theorem tw_2_127 : (Jvm.Cond.fieldLink "MilkHills" (129 : Nat) "MilkHills$Churn" "kind" "LMilkHills$Kind;") ∈ mh_WT := mh_in2 (i := 127) (by decide +kernel) rfl
theorem tw_2_128 : (Jvm.Cond.fieldLink "MilkHills$Kind" (22 : Nat) "MilkHills$Churn" "kind" "LMilkHills$Kind;") ∈ mh_WT := mh_in2 (i := 128) (by decide +kernel) rfl
theorem tw_2_129 : (Jvm.Cond.fieldLink "MilkHills$World" (156 : Nat) "MilkHills$Churn" "kind" "LMilkHills$Kind;") ∈ mh_WT := mh_in2 (i := 129) (by decide +kernel) rfl
theorem tw_2_130 : (Jvm.Cond.fieldLink "MilkHills$Relays" (62 : Nat) "MilkHills$Churn" "m" "I") ∈ mh_WT := mh_in2 (i := 130) (by decide +kernel) rfl
theorem tw_2_131 : (Jvm.Cond.fieldLink "MilkHills$Churn" (41 : Nat) "MilkHills$Churn" "m" "I") ∈ mh_WT := mh_in2 (i := 131) (by decide +kernel) rfl
theorem tw_2_132 : (Jvm.Cond.fieldLink "MilkHills" (133 : Nat) "MilkHills$Churn" "m" "I") ∈ mh_WT := mh_in2 (i := 132) (by decide +kernel) rfl
theorem tw_2_133 : (Jvm.Cond.fieldLink "MilkHills$World" (116 : Nat) "MilkHills$Churn" "m" "I") ∈ mh_WT := mh_in2 (i := 133) (by decide +kernel) rfl
theorem tw_2_134 : (Jvm.Cond.fieldLink "MilkHills$Kind" (30 : Nat) "MilkHills$Churn" "m" "I") ∈ mh_WT := mh_in2 (i := 134) (by decide +kernel) rfl
theorem tw_2_135 : (Jvm.Cond.fieldLink "MilkHills$Churn" (22 : Nat) "MilkHills$Churn" "at" "I") ∈ mh_WT := mh_in2 (i := 135) (by decide +kernel) rfl
theorem tw_2_136 : (Jvm.Cond.fieldLink "MilkHills$Relays" (42 : Nat) "MilkHills$Churn" "at" "I") ∈ mh_WT := mh_in2 (i := 136) (by decide +kernel) rfl
theorem tw_2_137 : (Jvm.Cond.fieldLink "MilkHills$World" (119 : Nat) "MilkHills$Churn" "at" "I") ∈ mh_WT := mh_in2 (i := 137) (by decide +kernel) rfl
theorem tw_2_138 : (Jvm.Cond.fieldLink "MilkHills" (169 : Nat) "MilkHills$Churn" "at" "I") ∈ mh_WT := mh_in2 (i := 138) (by decide +kernel) rfl
theorem tw_2_139 : (Jvm.Cond.fieldLink "MilkHills$Churn" (25 : Nat) "MilkHills$Churn" "how" "I") ∈ mh_WT := mh_in2 (i := 139) (by decide +kernel) rfl
theorem tw_2_140 : (Jvm.Cond.fieldLink "MilkHills$World" (133 : Nat) "MilkHills$Churn" "how" "I") ∈ mh_WT := mh_in2 (i := 140) (by decide +kernel) rfl
theorem tw_2_141 : (Jvm.Cond.fieldLink "MilkHills" (162 : Nat) "MilkHills$Churn" "how" "I") ∈ mh_WT := mh_in2 (i := 141) (by decide +kernel) rfl
theorem tw_2_142 : (Jvm.Cond.fieldLink "MilkHills$Churn" (28 : Nat) "MilkHills$Churn" "left" "I") ∈ mh_WT := mh_in2 (i := 142) (by decide +kernel) rfl
theorem tw_2_143 : (Jvm.Cond.fieldLink "MilkHills" (159 : Nat) "MilkHills$Churn" "left" "I") ∈ mh_WT := mh_in2 (i := 143) (by decide +kernel) rfl
theorem tw_2_144 : (Jvm.Cond.fieldLink "MilkHills$World" (181 : Nat) "MilkHills$Churn" "left" "I") ∈ mh_WT := mh_in2 (i := 144) (by decide +kernel) rfl
theorem tw_2_145 : (Jvm.Cond.fieldLink "MilkHills$Churn" (19 : Nat) "MilkHills$Churn" "carrier" "I") ∈ mh_WT := mh_in2 (i := 145) (by decide +kernel) rfl
theorem tw_2_146 : (Jvm.Cond.fieldLink "MilkHills$World" (168 : Nat) "MilkHills$Churn" "carrier" "I") ∈ mh_WT := mh_in2 (i := 146) (by decide +kernel) rfl
theorem tw_2_147 : (Jvm.Cond.fieldLink "MilkHills$Churn" (31 : Nat) "MilkHills$Churn" "sour" "I") ∈ mh_WT := mh_in2 (i := 147) (by decide +kernel) rfl
theorem tw_2_148 : (Jvm.Cond.fieldLink "MilkHills$Relays" (50 : Nat) "MilkHills$Churn" "sour" "I") ∈ mh_WT := mh_in2 (i := 148) (by decide +kernel) rfl
theorem tw_2_149 : (Jvm.Cond.fieldLink "MilkHills$World" (113 : Nat) "MilkHills$Churn" "sour" "I") ∈ mh_WT := mh_in2 (i := 149) (by decide +kernel) rfl
theorem tw_2_150 : (Jvm.Cond.fieldLink "MilkHills" (256 : Nat) "MilkHills$Churn" "sour" "I") ∈ mh_WT := mh_in2 (i := 150) (by decide +kernel) rfl
theorem tw_2_151 : (Jvm.Cond.fieldLink "MilkHills$Churn" (34 : Nat) "MilkHills$Churn" "shaken" "I") ∈ mh_WT := mh_in2 (i := 151) (by decide +kernel) rfl
theorem tw_2_152 : (Jvm.Cond.fieldLink "MilkHills$Relays" (54 : Nat) "MilkHills$Churn" "shaken" "I") ∈ mh_WT := mh_in2 (i := 152) (by decide +kernel) rfl
theorem tw_2_153 : (Jvm.Cond.fieldLink "MilkHills$Churn" (37 : Nat) "MilkHills$Churn" "given" "Z") ∈ mh_WT := mh_in2 (i := 153) (by decide +kernel) rfl
theorem tw_2_154 : (Jvm.Cond.fieldLink "MilkHills" (165 : Nat) "MilkHills$Churn" "given" "Z") ∈ mh_WT := mh_in2 (i := 154) (by decide +kernel) rfl
theorem tw_2_155 : (Jvm.Cond.fieldLink "MilkHills$World" (137 : Nat) "MilkHills$Churn" "given" "Z") ∈ mh_WT := mh_in2 (i := 155) (by decide +kernel) rfl
theorem tw_2_176 : (Jvm.Cond.superclass "MilkHills$Churn" "java/lang/Object") ∈ mh_WT := mh_in2 (i := 176) (by decide +kernel) rfl
theorem tw_2_177 : (Jvm.Cond.fieldLink "MilkHills$World" (9 : Nat) "MilkHills$World" "heats" "[I") ∈ mh_WT := mh_in2 (i := 177) (by decide +kernel) rfl
theorem tw_2_178 : (Jvm.Cond.fieldLink "MilkHills" (96 : Nat) "MilkHills$World" "heats" "[I") ∈ mh_WT := mh_in2 (i := 178) (by decide +kernel) rfl
theorem tw_2_179 : (Jvm.Cond.fieldLink "MilkHills$Relays" (87 : Nat) "MilkHills$World" "heats" "[I") ∈ mh_WT := mh_in2 (i := 179) (by decide +kernel) rfl
theorem tw_2_180 : (Jvm.Cond.fieldLink "MilkHills$World" (15 : Nat) "MilkHills$World" "rooms" "[I") ∈ mh_WT := mh_in2 (i := 180) (by decide +kernel) rfl
theorem tw_2_181 : (Jvm.Cond.fieldLink "MilkHills" (99 : Nat) "MilkHills$World" "rooms" "[I") ∈ mh_WT := mh_in2 (i := 181) (by decide +kernel) rfl
theorem tw_2_182 : (Jvm.Cond.fieldLink "MilkHills$Relays" (84 : Nat) "MilkHills$World" "rooms" "[I") ∈ mh_WT := mh_in2 (i := 182) (by decide +kernel) rfl
theorem tw_2_183 : (Jvm.Cond.fieldLink "MilkHills$World" (18 : Nat) "MilkHills$World" "prices" "[I") ∈ mh_WT := mh_in2 (i := 183) (by decide +kernel) rfl
theorem tw_2_184 : (Jvm.Cond.fieldLink "MilkHills" (102 : Nat) "MilkHills$World" "prices" "[I") ∈ mh_WT := mh_in2 (i := 184) (by decide +kernel) rfl
theorem tw_2_185 : (Jvm.Cond.fieldLink "MilkHills$World" (21 : Nat) "MilkHills$World" "paces" "[I") ∈ mh_WT := mh_in2 (i := 185) (by decide +kernel) rfl
theorem tw_2_186 : (Jvm.Cond.fieldLink "MilkHills$Relays" (76 : Nat) "MilkHills$World" "paces" "[I") ∈ mh_WT := mh_in2 (i := 186) (by decide +kernel) rfl
theorem tw_2_187 : (Jvm.Cond.fieldLink "MilkHills" (117 : Nat) "MilkHills$World" "paces" "[I") ∈ mh_WT := mh_in2 (i := 187) (by decide +kernel) rfl
theorem tw_2_188 : (Jvm.Cond.fieldLink "MilkHills$World" (24 : Nat) "MilkHills$World" "shakes" "[I") ∈ mh_WT := mh_in2 (i := 188) (by decide +kernel) rfl
theorem tw_2_189 : (Jvm.Cond.fieldLink "MilkHills$Relays" (79 : Nat) "MilkHills$World" "shakes" "[I") ∈ mh_WT := mh_in2 (i := 189) (by decide +kernel) rfl
theorem tw_2_190 : (Jvm.Cond.fieldLink "MilkHills" (120 : Nat) "MilkHills$World" "shakes" "[I") ∈ mh_WT := mh_in2 (i := 190) (by decide +kernel) rfl
theorem tw_2_191 : (Jvm.Cond.fieldLink "MilkHills$World" (29 : Nat) "MilkHills$World" "churns" "[LMilkHills$Churn;") ∈ mh_WT := mh_in2 (i := 191) (by decide +kernel) rfl
theorem tw_2_192 : (Jvm.Cond.fieldLink "MilkHills" (126 : Nat) "MilkHills$World" "churns" "[LMilkHills$Churn;") ∈ mh_WT := mh_in2 (i := 192) (by decide +kernel) rfl
theorem tw_2_193 : (Jvm.Cond.fieldLink "MilkHills$World" (83 : Nat) "MilkHills$World" "many" "I") ∈ mh_WT := mh_in2 (i := 193) (by decide +kernel) rfl
theorem tw_2_194 : (Jvm.Cond.fieldLink "MilkHills" (123 : Nat) "MilkHills$World" "many" "I") ∈ mh_WT := mh_in2 (i := 194) (by decide +kernel) rfl
theorem tw_2_195 : (Jvm.Cond.fieldLink "MilkHills$World" (86 : Nat) "MilkHills$World" "quarter" "I") ∈ mh_WT := mh_in2 (i := 195) (by decide +kernel) rfl
theorem tw_2_196 : (Jvm.Cond.fieldLink "MilkHills" (105 : Nat) "MilkHills$World" "quarter" "I") ∈ mh_WT := mh_in2 (i := 196) (by decide +kernel) rfl
theorem tw_2_197 : (Jvm.Cond.fieldLink "MilkHills$Relays" (128 : Nat) "MilkHills$World" "quarter" "I") ∈ mh_WT := mh_in2 (i := 197) (by decide +kernel) rfl
theorem tw_2_198 : (Jvm.Cond.fieldLink "MilkHills$World" (89 : Nat) "MilkHills$World" "takings" "I") ∈ mh_WT := mh_in2 (i := 198) (by decide +kernel) rfl
theorem tw_2_199 : (Jvm.Cond.fieldLink "MilkHills" (206 : Nat) "MilkHills$World" "takings" "I") ∈ mh_WT := mh_in2 (i := 199) (by decide +kernel) rfl
theorem tw_2_200 : (Jvm.Cond.fieldLink "MilkHills$World" (33 : Nat) "MilkHills$World" "tape" "[B") ∈ mh_WT := mh_in2 (i := 200) (by decide +kernel) rfl
theorem tw_2_201 : (Jvm.Cond.fieldLink "MilkHills" (185 : Nat) "MilkHills$World" "tape" "[B") ∈ mh_WT := mh_in2 (i := 201) (by decide +kernel) rfl
theorem tw_2_202 : (Jvm.Cond.fieldLink "MilkHills$World" (92 : Nat) "MilkHills$World" "bytes" "I") ∈ mh_WT := mh_in2 (i := 202) (by decide +kernel) rfl
theorem tw_2_203 : (Jvm.Cond.fieldLink "MilkHills" (182 : Nat) "MilkHills$World" "bytes" "I") ∈ mh_WT := mh_in2 (i := 203) (by decide +kernel) rfl
theorem tw_2_204 : (Jvm.Cond.fieldLink "MilkHills$World" (46 : Nat) "MilkHills$World" "warmLaw" "LMilkHills$Text;") ∈ mh_WT := mh_in2 (i := 204) (by decide +kernel) rfl
theorem tw_2_205 : (Jvm.Cond.fieldLink "MilkHills$Relays" (124 : Nat) "MilkHills$World" "warmLaw" "LMilkHills$Text;") ∈ mh_WT := mh_in2 (i := 205) (by decide +kernel) rfl
theorem tw_2_206 : (Jvm.Cond.fieldLink "MilkHills$World" (54 : Nat) "MilkHills$World" "worthLaw" "LMilkHills$Text;") ∈ mh_WT := mh_in2 (i := 206) (by decide +kernel) rfl
theorem tw_2_207 : (Jvm.Cond.fieldLink "MilkHills$World" (57 : Nat) "MilkHills$World" "waiting" "[I") ∈ mh_WT := mh_in2 (i := 207) (by decide +kernel) rfl
theorem tw_2_208 : (Jvm.Cond.fieldLink "MilkHills" (309 : Nat) "MilkHills$World" "waiting" "[I") ∈ mh_WT := mh_in2 (i := 208) (by decide +kernel) rfl
theorem tw_2_209 : (Jvm.Cond.fieldLink "MilkHills$World" (98 : Nat) "MilkHills$World" "waits" "I") ∈ mh_WT := mh_in2 (i := 209) (by decide +kernel) rfl
theorem tw_2_210 : (Jvm.Cond.fieldLink "MilkHills" (306 : Nat) "MilkHills$World" "waits" "I") ∈ mh_WT := mh_in2 (i := 210) (by decide +kernel) rfl
theorem tw_2_211 : (Jvm.Cond.fieldLink "MilkHills$World" (60 : Nat) "MilkHills$World" "z" "I") ∈ mh_WT := mh_in2 (i := 211) (by decide +kernel) rfl
theorem tw_2_212 : (Jvm.Cond.fieldLink "MilkHills" (259 : Nat) "MilkHills$World" "z" "I") ∈ mh_WT := mh_in2 (i := 212) (by decide +kernel) rfl
theorem tw_3_5 : (Jvm.Cond.superclass "MilkHills$World" "java/lang/Object") ∈ mh_WT := mh_in3 (i := 5) (by decide +kernel) rfl
theorem tw_3_6 : (Jvm.Cond.methodLink "MilkHills" (79 : Nat) ({ cls := "MilkHills$Churn", name := "<init>", desc := "(ILMilkHills$Kind;)V" } : Jvm.MethodName)) ∈ mh_WT := mh_in3 (i := 6) (by decide +kernel) rfl
theorem tw_3_7 : (Jvm.Cond.fieldLink "MilkHills" (72 : Nat) "MilkHills" "now" "LMilkHills$World;") ∈ mh_WT := mh_in3 (i := 7) (by decide +kernel) rfl
theorem tw_3_8 : (Jvm.Cond.fieldLink "MilkHills" (76 : Nat) "MilkHills" "kept" "LMilkHills$World;") ∈ mh_WT := mh_in3 (i := 8) (by decide +kernel) rfl
theorem tw_3_9 : (Jvm.Cond.fieldLink "MilkHills" (303 : Nat) "MilkHills" "images" "I") ∈ mh_WT := mh_in3 (i := 9) (by decide +kernel) rfl
theorem tw_3_10 : (Jvm.Cond.fieldLink "MilkHills" (30 : Nat) "MilkHills" "kinds" "[LMilkHills$Kind;") ∈ mh_WT := mh_in3 (i := 10) (by decide +kernel) rfl
theorem tw_3_11 : (Jvm.Cond.fieldLink "MilkHills" (38 : Nat) "MilkHills" "tried" "[LMilkHills$Churn;") ∈ mh_WT := mh_in3 (i := 11) (by decide +kernel) rfl
theorem tw_3_12 : (Jvm.Cond.fieldLink "MilkHills" (45 : Nat) "MilkHills" "planner" "LMilkHills$Relays;") ∈ mh_WT := mh_in3 (i := 12) (by decide +kernel) rfl
theorem tw_3_13 : (Jvm.Cond.fieldLink "MilkHills" (49 : Nat) "MilkHills" "traced" "[I") ∈ mh_WT := mh_in3 (i := 13) (by decide +kernel) rfl
theorem tw_3_14 : (Jvm.Cond.fieldLink "MilkHills" (55 : Nat) "MilkHills" "sheetNumbers" "[[I") ∈ mh_WT := mh_in3 (i := 14) (by decide +kernel) rfl
theorem tw_3_15 : (Jvm.Cond.fieldLink "MilkHills" (58 : Nat) "MilkHills" "sheetBits" "[I") ∈ mh_WT := mh_in3 (i := 15) (by decide +kernel) rfl
theorem tw_3_16 : (Jvm.Cond.fieldLink "MilkHills" (61 : Nat) "MilkHills" "sheetLengths" "[I") ∈ mh_WT := mh_in3 (i := 16) (by decide +kernel) rfl
theorem tw_3_17 : (Jvm.Cond.fieldLink "MilkHills" (64 : Nat) "MilkHills" "errors" "[I") ∈ mh_WT := mh_in3 (i := 17) (by decide +kernel) rfl
theorem tw_3_40 : (Jvm.Cond.superclass "MilkHills" "java/lang/Object") ∈ mh_WT := mh_in3 (i := 40) (by decide +kernel) rfl
theorem tw_3_41 : (Jvm.Cond.methodLink "MilkHillsLaw" (13 : Nat) ({ cls := "MilkHills", name := "hill", desc := "(III)I" } : Jvm.MethodName)) ∈ mh_WT := mh_in3 (i := 41) (by decide +kernel) rfl
theorem tw_3_42 : (Jvm.Cond.instanceMethod ({ cls := "MilkHills", name := "hill", desc := "(III)I" } : Jvm.MethodName)) ∈ mh_WT := mh_in3 (i := 42) (by decide +kernel) rfl
theorem tw_3_43 : (Jvm.Cond.selects "MilkHills" ({ cls := "MilkHills", name := "hill", desc := "(III)I" } : Jvm.MethodName) ({ cls := "MilkHills", name := "hill", desc := "(III)I" } : Jvm.MethodName)) ∈ mh_WT := mh_in3 (i := 43) (by decide +kernel) rfl
theorem tw_3_44 : (Jvm.Cond.code ({ cls := "MilkHills", name := "hill", desc := "(III)I" } : Jvm.MethodName) prog_1_method_2_code (6 : Nat) (Option.some Jvm.ClassFile.FieldType.int)) ∈ mh_WT := mh_in3 (i := 44) (by decide +kernel) rfl
theorem tw_3_45 : (Jvm.Cond.methodLink "MilkHills" (82 : Nat) ({ cls := "MilkHills", name := "within", desc := "(III)Z" } : Jvm.MethodName)) ∈ mh_WT := mh_in3 (i := 45) (by decide +kernel) rfl
theorem tw_3_46 : (Jvm.Cond.static ({ cls := "MilkHills", name := "within", desc := "(III)Z" } : Jvm.MethodName)) ∈ mh_WT := mh_in3 (i := 46) (by decide +kernel) rfl
theorem tw_3_47 : (Jvm.Cond.code ({ cls := "MilkHills", name := "within", desc := "(III)Z" } : Jvm.MethodName) prog_1_method_42_code (3 : Nat) (Option.some Jvm.ClassFile.FieldType.boolean)) ∈ mh_WT := mh_in3 (i := 47) (by decide +kernel) rfl
theorem tw_3_48 : (Jvm.Cond.methodLink "MilkHills" (86 : Nat) ({ cls := "MilkHills", name := "mostOfHill", desc := "(I)I" } : Jvm.MethodName)) ∈ mh_WT := mh_in3 (i := 48) (by decide +kernel) rfl
theorem tw_3_49 : (Jvm.Cond.static ({ cls := "MilkHills", name := "mostOfHill", desc := "(I)I" } : Jvm.MethodName)) ∈ mh_WT := mh_in3 (i := 49) (by decide +kernel) rfl
theorem tw_3_50 : (Jvm.Cond.code ({ cls := "MilkHills", name := "mostOfHill", desc := "(I)I" } : Jvm.MethodName) prog_1_method_43_code (1 : Nat) (Option.some Jvm.ClassFile.FieldType.int)) ∈ mh_WT := mh_in3 (i := 50) (by decide +kernel) rfl
theorem tw_3_51 : (Jvm.Cond.methodLink "MilkHills" (90 : Nat) ({ cls := "MilkHills", name := "refuse", desc := "(I)I" } : Jvm.MethodName)) ∈ mh_WT := mh_in3 (i := 51) (by decide +kernel) rfl
theorem tw_3_53 : (Jvm.Cond.instanceMethod ({ cls := "MilkHills", name := "refuse", desc := "(I)I" } : Jvm.MethodName)) ∈ mh_WT := mh_in3 (i := 53) (by decide +kernel) rfl
theorem tw_3_54 : (Jvm.Cond.code ({ cls := "MilkHills", name := "refuse", desc := "(I)I" } : Jvm.MethodName) prog_1_method_41_code (2 : Nat) (Option.some Jvm.ClassFile.FieldType.int)) ∈ mh_WT := mh_in3 (i := 54) (by decide +kernel) rfl
theorem tw_3_55 : (Jvm.Cond.constant "MilkHills" (321 : Nat) (-1000000000 : Int32)) ∈ mh_WT := mh_in3 (i := 55) (by decide +kernel) rfl
theorem tw_3_56 : (Jvm.Cond.methodLink "MilkHills" (93 : Nat) ({ cls := "MilkHills$World", name := "inBrook", desc := "(I)I" } : Jvm.MethodName)) ∈ mh_WT := mh_in3 (i := 56) (by decide +kernel) rfl
theorem tw_3_57 : (Jvm.Cond.instanceMethod ({ cls := "MilkHills$World", name := "inBrook", desc := "(I)I" } : Jvm.MethodName)) ∈ mh_WT := mh_in3 (i := 57) (by decide +kernel) rfl
theorem tw_3_58 : (Jvm.Cond.selects "MilkHills$World" ({ cls := "MilkHills$World", name := "inBrook", desc := "(I)I" } : Jvm.MethodName) ({ cls := "MilkHills$World", name := "inBrook", desc := "(I)I" } : Jvm.MethodName)) ∈ mh_WT := mh_in3 (i := 58) (by decide +kernel) rfl
theorem tw_3_59 : (Jvm.Cond.code ({ cls := "MilkHills$World", name := "inBrook", desc := "(I)I" } : Jvm.MethodName) prog_12_method_9_code (4 : Nat) (Option.some Jvm.ClassFile.FieldType.int)) ∈ mh_WT := mh_in3 (i := 59) (by decide +kernel) rfl
theorem tw_3_60 : (Jvm.Cond.methodLink "MilkHillsLaw" (18 : Nat) ({ cls := "MilkHills", name := "ofHill", desc := "(II)I" } : Jvm.MethodName)) ∈ mh_WT := mh_in3 (i := 60) (by decide +kernel) rfl
theorem tw_3_61 : (Jvm.Cond.instanceMethod ({ cls := "MilkHills", name := "ofHill", desc := "(II)I" } : Jvm.MethodName)) ∈ mh_WT := mh_in3 (i := 61) (by decide +kernel) rfl
theorem tw_3_62 : (Jvm.Cond.selects "MilkHills" ({ cls := "MilkHills", name := "ofHill", desc := "(II)I" } : Jvm.MethodName) ({ cls := "MilkHills", name := "ofHill", desc := "(II)I" } : Jvm.MethodName)) ∈ mh_WT := mh_in3 (i := 62) (by decide +kernel) rfl
theorem tw_3_63 : (Jvm.Cond.code ({ cls := "MilkHills", name := "ofHill", desc := "(II)I" } : Jvm.MethodName) prog_1_method_3_code (3 : Nat) (Option.some Jvm.ClassFile.FieldType.int)) ∈ mh_WT := mh_in3 (i := 63) (by decide +kernel) rfl
theorem tw_3_64 : (Jvm.Cond.methodLink "MilkHills" (109 : Nat) ({ cls := "MilkHills$World", name := "warm", desc := "(II)I" } : Jvm.MethodName)) ∈ mh_WT := mh_in3 (i := 64) (by decide +kernel) rfl
theorem tw_3_65 : (Jvm.Cond.instanceMethod ({ cls := "MilkHills$World", name := "warm", desc := "(II)I" } : Jvm.MethodName)) ∈ mh_WT := mh_in3 (i := 65) (by decide +kernel) rfl
theorem tw_3_66 : (Jvm.Cond.selects "MilkHills$World" ({ cls := "MilkHills$World", name := "warm", desc := "(II)I" } : Jvm.MethodName) ({ cls := "MilkHills$World", name := "warm", desc := "(II)I" } : Jvm.MethodName)) ∈ mh_WT := mh_in3 (i := 66) (by decide +kernel) rfl
theorem tw_3_67 : (Jvm.Cond.code ({ cls := "MilkHills$World", name := "warm", desc := "(II)I" } : Jvm.MethodName) prog_12_method_5_code (3 : Nat) (Option.some Jvm.ClassFile.FieldType.int)) ∈ mh_WT := mh_in3 (i := 67) (by decide +kernel) rfl
theorem tw_3_69 : (Jvm.Cond.methodLink "MilkHills$World" (105 : Nat) ({ cls := "MilkHills$Text", name := "value", desc := "(III)I" } : Jvm.MethodName)) ∈ mh_WT := mh_in3 (i := 69) (by decide +kernel) rfl
theorem tw_3_70 : (Jvm.Cond.instanceMethod ({ cls := "MilkHills$Text", name := "value", desc := "(III)I" } : Jvm.MethodName)) ∈ mh_WT := mh_in3 (i := 70) (by decide +kernel) rfl
theorem tw_3_71 : (Jvm.Cond.selects "MilkHills$Text" ({ cls := "MilkHills$Text", name := "value", desc := "(III)I" } : Jvm.MethodName) ({ cls := "MilkHills$Text", name := "value", desc := "(III)I" } : Jvm.MethodName)) ∈ mh_WT := mh_in3 (i := 71) (by decide +kernel) rfl
theorem tw_3_72 : (Jvm.Cond.code ({ cls := "MilkHills$Text", name := "value", desc := "(III)I" } : Jvm.MethodName) prog_11_method_4_code (7 : Nat) (Option.some Jvm.ClassFile.FieldType.int)) ∈ mh_WT := mh_in3 (i := 72) (by decide +kernel) rfl
theorem tw_3_73 : (Jvm.Cond.methodLink "MilkHills$Text" (77 : Nat) ({ cls := "MilkHills$Text", name := "bit", desc := "(Z)I" } : Jvm.MethodName)) ∈ mh_WT := mh_in3 (i := 73) (by decide +kernel) rfl
theorem tw_3_74 : (Jvm.Cond.static ({ cls := "MilkHills$Text", name := "bit", desc := "(Z)I" } : Jvm.MethodName)) ∈ mh_WT := mh_in3 (i := 74) (by decide +kernel) rfl
theorem tw_3_75 : (Jvm.Cond.code ({ cls := "MilkHills$Text", name := "bit", desc := "(Z)I" } : Jvm.MethodName) prog_11_method_6_code (1 : Nat) (Option.some Jvm.ClassFile.FieldType.int)) ∈ mh_WT := mh_in3 (i := 75) (by decide +kernel) rfl
theorem tw_3_76 : (Jvm.Cond.methodLink "MilkHills$Text" (81 : Nat) ({ cls := "MilkHills$Text", name := "joined", desc := "(III)I" } : Jvm.MethodName)) ∈ mh_WT := mh_in3 (i := 76) (by decide +kernel) rfl
theorem tw_3_77 : (Jvm.Cond.static ({ cls := "MilkHills$Text", name := "joined", desc := "(III)I" } : Jvm.MethodName)) ∈ mh_WT := mh_in3 (i := 77) (by decide +kernel) rfl
theorem tw_3_78 : (Jvm.Cond.code ({ cls := "MilkHills$Text", name := "joined", desc := "(III)I" } : Jvm.MethodName) prog_11_method_5_code (3 : Nat) (Option.some Jvm.ClassFile.FieldType.int)) ∈ mh_WT := mh_in3 (i := 78) (by decide +kernel) rfl
theorem tw_3_79 : (Jvm.Cond.methodLink "MilkHillsLaw" (23 : Nat) ({ cls := "MilkHills", name := "carrier", desc := "(III)I" } : Jvm.MethodName)) ∈ mh_WT := mh_in3 (i := 79) (by decide +kernel) rfl
theorem tw_3_80 : (Jvm.Cond.instanceMethod ({ cls := "MilkHills", name := "carrier", desc := "(III)I" } : Jvm.MethodName)) ∈ mh_WT := mh_in3 (i := 80) (by decide +kernel) rfl
theorem tw_3_81 : (Jvm.Cond.selects "MilkHills" ({ cls := "MilkHills", name := "carrier", desc := "(III)I" } : Jvm.MethodName) ({ cls := "MilkHills", name := "carrier", desc := "(III)I" } : Jvm.MethodName)) ∈ mh_WT := mh_in3 (i := 81) (by decide +kernel) rfl
theorem tw_3_82 : (Jvm.Cond.code ({ cls := "MilkHills", name := "carrier", desc := "(III)I" } : Jvm.MethodName) prog_1_method_4_code (5 : Nat) (Option.some Jvm.ClassFile.FieldType.int)) ∈ mh_WT := mh_in3 (i := 82) (by decide +kernel) rfl
theorem tw_3_83 : (Jvm.Cond.methodLink "MilkHills" (113 : Nat) ({ cls := "MilkHills", name := "isCarrier", desc := "(I)Z" } : Jvm.MethodName)) ∈ mh_WT := mh_in3 (i := 83) (by decide +kernel) rfl
theorem tw_3_84 : (Jvm.Cond.static ({ cls := "MilkHills", name := "isCarrier", desc := "(I)Z" } : Jvm.MethodName)) ∈ mh_WT := mh_in3 (i := 84) (by decide +kernel) rfl
theorem tw_3_85 : (Jvm.Cond.code ({ cls := "MilkHills", name := "isCarrier", desc := "(I)Z" } : Jvm.MethodName) prog_1_method_44_code (1 : Nat) (Option.some Jvm.ClassFile.FieldType.boolean)) ∈ mh_WT := mh_in3 (i := 85) (by decide +kernel) rfl
theorem tw_3_86 : (Jvm.Cond.methodLink "MilkHillsLaw" (27 : Nat) ({ cls := "MilkHills", name := "churn", desc := "(I)I" } : Jvm.MethodName)) ∈ mh_WT := mh_in3 (i := 86) (by decide +kernel) rfl
theorem tw_3_87 : (Jvm.Cond.instanceMethod ({ cls := "MilkHills", name := "churn", desc := "(I)I" } : Jvm.MethodName)) ∈ mh_WT := mh_in3 (i := 87) (by decide +kernel) rfl
theorem tw_3_88 : (Jvm.Cond.selects "MilkHills" ({ cls := "MilkHills", name := "churn", desc := "(I)I" } : Jvm.MethodName) ({ cls := "MilkHills", name := "churn", desc := "(I)I" } : Jvm.MethodName)) ∈ mh_WT := mh_in3 (i := 88) (by decide +kernel) rfl
theorem tw_3_89 : (Jvm.Cond.code ({ cls := "MilkHills", name := "churn", desc := "(I)I" } : Jvm.MethodName) prog_1_method_5_code (3 : Nat) (Option.some Jvm.ClassFile.FieldType.int)) ∈ mh_WT := mh_in3 (i := 89) (by decide +kernel) rfl
theorem tw_3_90 : (Jvm.Cond.methodLink "MilkHills" (136 : Nat) ({ cls := "MilkHills$Churn", name := "renew", desc := "()V" } : Jvm.MethodName)) ∈ mh_WT := mh_in3 (i := 90) (by decide +kernel) rfl
theorem tw_3_91 : (Jvm.Cond.instanceMethod ({ cls := "MilkHills$Churn", name := "renew", desc := "()V" } : Jvm.MethodName)) ∈ mh_WT := mh_in3 (i := 91) (by decide +kernel) rfl
theorem tw_3_92 : (Jvm.Cond.selects "MilkHills$Churn" ({ cls := "MilkHills$Churn", name := "renew", desc := "()V" } : Jvm.MethodName) ({ cls := "MilkHills$Churn", name := "renew", desc := "()V" } : Jvm.MethodName)) ∈ mh_WT := mh_in3 (i := 92) (by decide +kernel) rfl
theorem tw_3_93 : (Jvm.Cond.code ({ cls := "MilkHills$Churn", name := "renew", desc := "()V" } : Jvm.MethodName) prog_2_method_2_code (1 : Nat) (Option.none : Option Jvm.ClassFile.FieldType)) ∈ mh_WT := mh_in3 (i := 93) (by decide +kernel) rfl
theorem tw_3_94 : (Jvm.Cond.methodLink "MilkHillsLaw" (32 : Nat) ({ cls := "MilkHills", name := "ofChurn", desc := "(II)I" } : Jvm.MethodName)) ∈ mh_WT := mh_in3 (i := 94) (by decide +kernel) rfl
theorem tw_3_95 : (Jvm.Cond.instanceMethod ({ cls := "MilkHills", name := "ofChurn", desc := "(II)I" } : Jvm.MethodName)) ∈ mh_WT := mh_in3 (i := 95) (by decide +kernel) rfl
theorem tw_3_96 : (Jvm.Cond.selects "MilkHills" ({ cls := "MilkHills", name := "ofChurn", desc := "(II)I" } : Jvm.MethodName) ({ cls := "MilkHills", name := "ofChurn", desc := "(II)I" } : Jvm.MethodName)) ∈ mh_WT := mh_in3 (i := 96) (by decide +kernel) rfl
theorem tw_3_97 : (Jvm.Cond.code ({ cls := "MilkHills", name := "ofChurn", desc := "(II)I" } : Jvm.MethodName) prog_1_method_6_code (3 : Nat) (Option.some Jvm.ClassFile.FieldType.int)) ∈ mh_WT := mh_in3 (i := 97) (by decide +kernel) rfl
theorem tw_3_98 : (Jvm.Cond.methodLink "MilkHills" (139 : Nat) ({ cls := "MilkHills", name := "isChurn", desc := "(I)Z" } : Jvm.MethodName)) ∈ mh_WT := mh_in3 (i := 98) (by decide +kernel) rfl
theorem tw_3_100 : (Jvm.Cond.instanceMethod ({ cls := "MilkHills", name := "isChurn", desc := "(I)Z" } : Jvm.MethodName)) ∈ mh_WT := mh_in3 (i := 100) (by decide +kernel) rfl
theorem tw_3_101 : (Jvm.Cond.code ({ cls := "MilkHills", name := "isChurn", desc := "(I)Z" } : Jvm.MethodName) prog_1_method_46_code (2 : Nat) (Option.some Jvm.ClassFile.FieldType.boolean)) ∈ mh_WT := mh_in3 (i := 101) (by decide +kernel) rfl
theorem tw_3_102 : (Jvm.Cond.methodLink "MilkHills" (142 : Nat) ({ cls := "MilkHills$Churn", name := "answer", desc := "(I)I" } : Jvm.MethodName)) ∈ mh_WT := mh_in3 (i := 102) (by decide +kernel) rfl
theorem tw_3_103 : (Jvm.Cond.instanceMethod ({ cls := "MilkHills$Churn", name := "answer", desc := "(I)I" } : Jvm.MethodName)) ∈ mh_WT := mh_in3 (i := 103) (by decide +kernel) rfl
theorem tw_3_104 : (Jvm.Cond.selects "MilkHills$Churn" ({ cls := "MilkHills$Churn", name := "answer", desc := "(I)I" } : Jvm.MethodName) ({ cls := "MilkHills$Churn", name := "answer", desc := "(I)I" } : Jvm.MethodName)) ∈ mh_WT := mh_in3 (i := 104) (by decide +kernel) rfl
theorem tw_3_105 : (Jvm.Cond.code ({ cls := "MilkHills$Churn", name := "answer", desc := "(I)I" } : Jvm.MethodName) prog_2_method_9_code (2 : Nat) (Option.some Jvm.ClassFile.FieldType.int)) ∈ mh_WT := mh_in3 (i := 105) (by decide +kernel) rfl
theorem tw_3_106 : (Jvm.Cond.methodLink "MilkHills$Churn" (54 : Nat) ({ cls := "MilkHills$Churn", name := "state", desc := "()I" } : Jvm.MethodName)) ∈ mh_WT := mh_in3 (i := 106) (by decide +kernel) rfl
theorem tw_3_107 : (Jvm.Cond.instanceMethod ({ cls := "MilkHills$Churn", name := "state", desc := "()I" } : Jvm.MethodName)) ∈ mh_WT := mh_in3 (i := 107) (by decide +kernel) rfl
theorem tw_3_108 : (Jvm.Cond.selects "MilkHills$Churn" ({ cls := "MilkHills$Churn", name := "state", desc := "()I" } : Jvm.MethodName) ({ cls := "MilkHills$Churn", name := "state", desc := "()I" } : Jvm.MethodName)) ∈ mh_WT := mh_in3 (i := 108) (by decide +kernel) rfl
theorem tw_3_109 : (Jvm.Cond.code ({ cls := "MilkHills$Churn", name := "state", desc := "()I" } : Jvm.MethodName) prog_2_method_4_code (1 : Nat) (Option.some Jvm.ClassFile.FieldType.int)) ∈ mh_WT := mh_in3 (i := 109) (by decide +kernel) rfl
theorem tw_3_110 : (Jvm.Cond.methodLink "MilkHills$Churn" (44 : Nat) ({ cls := "MilkHills$Kind", name := "turns", desc := "(I)I" } : Jvm.MethodName)) ∈ mh_WT := mh_in3 (i := 110) (by decide +kernel) rfl
theorem tw_3_111 : (Jvm.Cond.instanceMethod ({ cls := "MilkHills$Kind", name := "turns", desc := "(I)I" } : Jvm.MethodName)) ∈ mh_WT := mh_in3 (i := 111) (by decide +kernel) rfl
theorem tw_3_112 : (Jvm.Cond.selects "MilkHills$Kind" ({ cls := "MilkHills$Kind", name := "turns", desc := "(I)I" } : Jvm.MethodName) ({ cls := "MilkHills$Kind", name := "turns", desc := "(I)I" } : Jvm.MethodName)) ∈ mh_WT := mh_in3 (i := 112) (by decide +kernel) rfl
theorem tw_3_113 : (Jvm.Cond.sameMethod "MilkHills$Kind" "MilkHills$Kind" "turns" "(I)I") ∈ mh_WT := mh_in3 (i := 113) (by decide +kernel) rfl
theorem tw_3_114 : (Jvm.Cond.selects "MilkHills$Creamed" ({ cls := "MilkHills$Kind", name := "turns", desc := "(I)I" } : Jvm.MethodName) ({ cls := "MilkHills$Kind", name := "turns", desc := "(I)I" } : Jvm.MethodName)) ∈ mh_WT := mh_in3 (i := 114) (by decide +kernel) rfl
theorem tw_3_115 : (Jvm.Cond.selects "MilkHills$Goats" ({ cls := "MilkHills$Kind", name := "turns", desc := "(I)I" } : Jvm.MethodName) ({ cls := "MilkHills$Goats", name := "turns", desc := "(I)I" } : Jvm.MethodName)) ∈ mh_WT := mh_in3 (i := 115) (by decide +kernel) rfl
theorem tw_3_116 : (Jvm.Cond.instanceMethod ({ cls := "MilkHills$Goats", name := "turns", desc := "(I)I" } : Jvm.MethodName)) ∈ mh_WT := mh_in3 (i := 116) (by decide +kernel) rfl
theorem tw_3_117 : (Jvm.Cond.code ({ cls := "MilkHills$Goats", name := "turns", desc := "(I)I" } : Jvm.MethodName) prog_4_method_3_code (2 : Nat) (Option.some Jvm.ClassFile.FieldType.int)) ∈ mh_WT := mh_in3 (i := 117) (by decide +kernel) rfl
theorem tw_3_118 : (Jvm.Cond.selects "MilkHills$Lidded" ({ cls := "MilkHills$Kind", name := "turns", desc := "(I)I" } : Jvm.MethodName) ({ cls := "MilkHills$Kind", name := "turns", desc := "(I)I" } : Jvm.MethodName)) ∈ mh_WT := mh_in3 (i := 118) (by decide +kernel) rfl
theorem tw_3_119 : (Jvm.Cond.selects "MilkHills$Old" ({ cls := "MilkHills$Kind", name := "turns", desc := "(I)I" } : Jvm.MethodName) ({ cls := "MilkHills$Kind", name := "turns", desc := "(I)I" } : Jvm.MethodName)) ∈ mh_WT := mh_in3 (i := 119) (by decide +kernel) rfl
theorem tw_3_120 : (Jvm.Cond.selects "MilkHills$Running" ({ cls := "MilkHills$Kind", name := "turns", desc := "(I)I" } : Jvm.MethodName) ({ cls := "MilkHills$Running", name := "turns", desc := "(I)I" } : Jvm.MethodName)) ∈ mh_WT := mh_in3 (i := 120) (by decide +kernel) rfl
theorem tw_3_121 : (Jvm.Cond.instanceMethod ({ cls := "MilkHills$Running", name := "turns", desc := "(I)I" } : Jvm.MethodName)) ∈ mh_WT := mh_in3 (i := 121) (by decide +kernel) rfl
theorem tw_3_122 : (Jvm.Cond.code ({ cls := "MilkHills$Running", name := "turns", desc := "(I)I" } : Jvm.MethodName) prog_9_method_3_code (2 : Nat) (Option.some Jvm.ClassFile.FieldType.int)) ∈ mh_WT := mh_in3 (i := 122) (by decide +kernel) rfl
theorem tw_3_123 : (Jvm.Cond.methodLink "MilkHills$Running" (16 : Nat) ({ cls := "MilkHills$Goats", name := "turns", desc := "(I)I" } : Jvm.MethodName)) ∈ mh_WT := mh_in3 (i := 123) (by decide +kernel) rfl
theorem tw_3_124 : (Jvm.Cond.selects "MilkHills$Sealed" ({ cls := "MilkHills$Kind", name := "turns", desc := "(I)I" } : Jvm.MethodName) ({ cls := "MilkHills$Sealed", name := "turns", desc := "(I)I" } : Jvm.MethodName)) ∈ mh_WT := mh_in3 (i := 124) (by decide +kernel) rfl
theorem tw_3_125 : (Jvm.Cond.instanceMethod ({ cls := "MilkHills$Sealed", name := "turns", desc := "(I)I" } : Jvm.MethodName)) ∈ mh_WT := mh_in3 (i := 125) (by decide +kernel) rfl
theorem tw_3_126 : (Jvm.Cond.code ({ cls := "MilkHills$Sealed", name := "turns", desc := "(I)I" } : Jvm.MethodName) prog_10_method_3_code (2 : Nat) (Option.some Jvm.ClassFile.FieldType.int)) ∈ mh_WT := mh_in3 (i := 126) (by decide +kernel) rfl
theorem tw_3_127 : (Jvm.Cond.methodLink "MilkHills$Sealed" (16 : Nat) ({ cls := "MilkHills$Lidded", name := "turns", desc := "(I)I" } : Jvm.MethodName)) ∈ mh_WT := mh_in3 (i := 127) (by decide +kernel) rfl
theorem tw_3_128 : (Jvm.Cond.sameMethod "MilkHills$Lidded" "MilkHills$Kind" "turns" "(I)I") ∈ mh_WT := mh_in3 (i := 128) (by decide +kernel) rfl
theorem tw_3_130 : (Jvm.Cond.code ({ cls := "MilkHills$Kind", name := "turns", desc := "(I)I" } : Jvm.MethodName) prog_5_method_5_code (2 : Nat) (Option.some Jvm.ClassFile.FieldType.int)) ∈ mh_WT := mh_in3 (i := 130) (by decide +kernel) rfl
theorem tw_3_131 : (Jvm.Cond.methodLink "MilkHillsLaw" (36 : Nat) ({ cls := "MilkHills", name := "become", desc := "(II)I" } : Jvm.MethodName)) ∈ mh_WT := mh_in3 (i := 131) (by decide +kernel) rfl
theorem tw_3_132 : (Jvm.Cond.instanceMethod ({ cls := "MilkHills", name := "become", desc := "(II)I" } : Jvm.MethodName)) ∈ mh_WT := mh_in3 (i := 132) (by decide +kernel) rfl
theorem tw_3_133 : (Jvm.Cond.selects "MilkHills" ({ cls := "MilkHills", name := "become", desc := "(II)I" } : Jvm.MethodName) ({ cls := "MilkHills", name := "become", desc := "(II)I" } : Jvm.MethodName)) ∈ mh_WT := mh_in3 (i := 133) (by decide +kernel) rfl
theorem tw_3_134 : (Jvm.Cond.code ({ cls := "MilkHills", name := "become", desc := "(II)I" } : Jvm.MethodName) prog_1_method_7_code (5 : Nat) (Option.some Jvm.ClassFile.FieldType.int)) ∈ mh_WT := mh_in3 (i := 134) (by decide +kernel) rfl
theorem tw_3_135 : (Jvm.Cond.methodLink "MilkHillsLaw" (40 : Nat) ({ cls := "MilkHills", name := "as", desc := "(II)I" } : Jvm.MethodName)) ∈ mh_WT := mh_in3 (i := 135) (by decide +kernel) rfl
theorem tw_3_136 : (Jvm.Cond.instanceMethod ({ cls := "MilkHills", name := "as", desc := "(II)I" } : Jvm.MethodName)) ∈ mh_WT := mh_in3 (i := 136) (by decide +kernel) rfl
theorem tw_3_137 : (Jvm.Cond.selects "MilkHills" ({ cls := "MilkHills", name := "as", desc := "(II)I" } : Jvm.MethodName) ({ cls := "MilkHills", name := "as", desc := "(II)I" } : Jvm.MethodName)) ∈ mh_WT := mh_in3 (i := 137) (by decide +kernel) rfl
theorem tw_3_138 : (Jvm.Cond.code ({ cls := "MilkHills", name := "as", desc := "(II)I" } : Jvm.MethodName) prog_1_method_8_code (4 : Nat) (Option.some Jvm.ClassFile.FieldType.int)) ∈ mh_WT := mh_in3 (i := 138) (by decide +kernel) rfl
theorem tw_3_139 : (Jvm.Cond.methodLink "MilkHills" (148 : Nat) ({ cls := "MilkHills$Kind", name := "isUnder", desc := "(I)Z" } : Jvm.MethodName)) ∈ mh_WT := mh_in3 (i := 139) (by decide +kernel) rfl
theorem tw_3_140 : (Jvm.Cond.instanceMethod ({ cls := "MilkHills$Kind", name := "isUnder", desc := "(I)Z" } : Jvm.MethodName)) ∈ mh_WT := mh_in3 (i := 140) (by decide +kernel) rfl
theorem tw_3_141 : (Jvm.Cond.selects "MilkHills$Kind" ({ cls := "MilkHills$Kind", name := "isUnder", desc := "(I)Z" } : Jvm.MethodName) ({ cls := "MilkHills$Kind", name := "isUnder", desc := "(I)Z" } : Jvm.MethodName)) ∈ mh_WT := mh_in3 (i := 141) (by decide +kernel) rfl
theorem tw_3_142 : (Jvm.Cond.sameMethod "MilkHills$Kind" "MilkHills$Kind" "isUnder" "(I)Z") ∈ mh_WT := mh_in3 (i := 142) (by decide +kernel) rfl
theorem tw_3_143 : (Jvm.Cond.selects "MilkHills$Creamed" ({ cls := "MilkHills$Kind", name := "isUnder", desc := "(I)Z" } : Jvm.MethodName) ({ cls := "MilkHills$Kind", name := "isUnder", desc := "(I)Z" } : Jvm.MethodName)) ∈ mh_WT := mh_in3 (i := 143) (by decide +kernel) rfl
theorem tw_3_144 : (Jvm.Cond.selects "MilkHills$Goats" ({ cls := "MilkHills$Kind", name := "isUnder", desc := "(I)Z" } : Jvm.MethodName) ({ cls := "MilkHills$Kind", name := "isUnder", desc := "(I)Z" } : Jvm.MethodName)) ∈ mh_WT := mh_in3 (i := 144) (by decide +kernel) rfl
theorem tw_3_145 : (Jvm.Cond.selects "MilkHills$Lidded" ({ cls := "MilkHills$Kind", name := "isUnder", desc := "(I)Z" } : Jvm.MethodName) ({ cls := "MilkHills$Kind", name := "isUnder", desc := "(I)Z" } : Jvm.MethodName)) ∈ mh_WT := mh_in3 (i := 145) (by decide +kernel) rfl
theorem tw_3_146 : (Jvm.Cond.selects "MilkHills$Old" ({ cls := "MilkHills$Kind", name := "isUnder", desc := "(I)Z" } : Jvm.MethodName) ({ cls := "MilkHills$Kind", name := "isUnder", desc := "(I)Z" } : Jvm.MethodName)) ∈ mh_WT := mh_in3 (i := 146) (by decide +kernel) rfl
theorem tw_3_147 : (Jvm.Cond.selects "MilkHills$Running" ({ cls := "MilkHills$Kind", name := "isUnder", desc := "(I)Z" } : Jvm.MethodName) ({ cls := "MilkHills$Kind", name := "isUnder", desc := "(I)Z" } : Jvm.MethodName)) ∈ mh_WT := mh_in3 (i := 147) (by decide +kernel) rfl
theorem tw_3_148 : (Jvm.Cond.selects "MilkHills$Sealed" ({ cls := "MilkHills$Kind", name := "isUnder", desc := "(I)Z" } : Jvm.MethodName) ({ cls := "MilkHills$Kind", name := "isUnder", desc := "(I)Z" } : Jvm.MethodName)) ∈ mh_WT := mh_in3 (i := 148) (by decide +kernel) rfl
theorem tw_3_149 : (Jvm.Cond.code ({ cls := "MilkHills$Kind", name := "isUnder", desc := "(I)Z" } : Jvm.MethodName) prog_5_method_2_code (2 : Nat) (Option.some Jvm.ClassFile.FieldType.boolean)) ∈ mh_WT := mh_in3 (i := 149) (by decide +kernel) rfl
theorem tw_3_150 : (Jvm.Cond.methodLink "MilkHillsLaw" (44 : Nat) ({ cls := "MilkHills", name := "go", desc := "(II)I" } : Jvm.MethodName)) ∈ mh_WT := mh_in3 (i := 150) (by decide +kernel) rfl
theorem tw_3_151 : (Jvm.Cond.instanceMethod ({ cls := "MilkHills", name := "go", desc := "(II)I" } : Jvm.MethodName)) ∈ mh_WT := mh_in3 (i := 151) (by decide +kernel) rfl
theorem tw_3_152 : (Jvm.Cond.selects "MilkHills" ({ cls := "MilkHills", name := "go", desc := "(II)I" } : Jvm.MethodName) ({ cls := "MilkHills", name := "go", desc := "(II)I" } : Jvm.MethodName)) ∈ mh_WT := mh_in3 (i := 152) (by decide +kernel) rfl
theorem tw_3_153 : (Jvm.Cond.code ({ cls := "MilkHills", name := "go", desc := "(II)I" } : Jvm.MethodName) prog_1_method_9_code (4 : Nat) (Option.some Jvm.ClassFile.FieldType.int)) ∈ mh_WT := mh_in3 (i := 153) (by decide +kernel) rfl
theorem tw_3_154 : (Jvm.Cond.methodLink "MilkHills" (151 : Nat) ({ cls := "MilkHills$Churn", name := "stands", desc := "()Z" } : Jvm.MethodName)) ∈ mh_WT := mh_in3 (i := 154) (by decide +kernel) rfl
theorem tw_3_155 : (Jvm.Cond.instanceMethod ({ cls := "MilkHills$Churn", name := "stands", desc := "()Z" } : Jvm.MethodName)) ∈ mh_WT := mh_in3 (i := 155) (by decide +kernel) rfl
theorem tw_3_156 : (Jvm.Cond.selects "MilkHills$Churn" ({ cls := "MilkHills$Churn", name := "stands", desc := "()Z" } : Jvm.MethodName) ({ cls := "MilkHills$Churn", name := "stands", desc := "()Z" } : Jvm.MethodName)) ∈ mh_WT := mh_in3 (i := 156) (by decide +kernel) rfl
theorem tw_3_157 : (Jvm.Cond.code ({ cls := "MilkHills$Churn", name := "stands", desc := "()Z" } : Jvm.MethodName) prog_2_method_5_code (1 : Nat) (Option.some Jvm.ClassFile.FieldType.boolean)) ∈ mh_WT := mh_in3 (i := 157) (by decide +kernel) rfl
theorem tw_3_158 : (Jvm.Cond.methodLink "MilkHills" (155 : Nat) ({ cls := "MilkHills$World", name := "setOff", desc := "(LMilkHills$Churn;I)V" } : Jvm.MethodName)) ∈ mh_WT := mh_in3 (i := 158) (by decide +kernel) rfl
theorem tw_3_159 : (Jvm.Cond.instanceMethod ({ cls := "MilkHills$World", name := "setOff", desc := "(LMilkHills$Churn;I)V" } : Jvm.MethodName)) ∈ mh_WT := mh_in3 (i := 159) (by decide +kernel) rfl
theorem tw_3_160 : (Jvm.Cond.selects "MilkHills$World" ({ cls := "MilkHills$World", name := "setOff", desc := "(LMilkHills$Churn;I)V" } : Jvm.MethodName) ({ cls := "MilkHills$World", name := "setOff", desc := "(LMilkHills$Churn;I)V" } : Jvm.MethodName)) ∈ mh_WT := mh_in3 (i := 160) (by decide +kernel) rfl
theorem tw_3_161 : (Jvm.Cond.code ({ cls := "MilkHills$World", name := "setOff", desc := "(LMilkHills$Churn;I)V" } : Jvm.MethodName) prog_12_method_16_code (3 : Nat) (Option.none : Option Jvm.ClassFile.FieldType)) ∈ mh_WT := mh_in3 (i := 161) (by decide +kernel) rfl
theorem tw_3_163 : (Jvm.Cond.methodLink "MilkHillsLaw" (48 : Nat) ({ cls := "MilkHills", name := "brook", desc := "(I)I" } : Jvm.MethodName)) ∈ mh_WT := mh_in3 (i := 163) (by decide +kernel) rfl
theorem tw_3_164 : (Jvm.Cond.instanceMethod ({ cls := "MilkHills", name := "brook", desc := "(I)I" } : Jvm.MethodName)) ∈ mh_WT := mh_in3 (i := 164) (by decide +kernel) rfl
theorem tw_3_165 : (Jvm.Cond.selects "MilkHills" ({ cls := "MilkHills", name := "brook", desc := "(I)I" } : Jvm.MethodName) ({ cls := "MilkHills", name := "brook", desc := "(I)I" } : Jvm.MethodName)) ∈ mh_WT := mh_in3 (i := 165) (by decide +kernel) rfl
theorem tw_3_166 : (Jvm.Cond.code ({ cls := "MilkHills", name := "brook", desc := "(I)I" } : Jvm.MethodName) prog_1_method_10_code (3 : Nat) (Option.some Jvm.ClassFile.FieldType.int)) ∈ mh_WT := mh_in3 (i := 166) (by decide +kernel) rfl
theorem tw_3_167 : (Jvm.Cond.methodLink "MilkHills" (172 : Nat) ({ cls := "MilkHills$World", name := "room", desc := "(I)I" } : Jvm.MethodName)) ∈ mh_WT := mh_in3 (i := 167) (by decide +kernel) rfl
theorem tw_3_168 : (Jvm.Cond.instanceMethod ({ cls := "MilkHills$World", name := "room", desc := "(I)I" } : Jvm.MethodName)) ∈ mh_WT := mh_in3 (i := 168) (by decide +kernel) rfl
theorem tw_3_169 : (Jvm.Cond.selects "MilkHills$World" ({ cls := "MilkHills$World", name := "room", desc := "(I)I" } : Jvm.MethodName) ({ cls := "MilkHills$World", name := "room", desc := "(I)I" } : Jvm.MethodName)) ∈ mh_WT := mh_in3 (i := 169) (by decide +kernel) rfl
theorem tw_3_170 : (Jvm.Cond.code ({ cls := "MilkHills$World", name := "room", desc := "(I)I" } : Jvm.MethodName) prog_12_method_4_code (2 : Nat) (Option.some Jvm.ClassFile.FieldType.int)) ∈ mh_WT := mh_in3 (i := 170) (by decide +kernel) rfl
theorem tw_3_171 : (Jvm.Cond.methodLink "MilkHillsLaw" (52 : Nat) ({ cls := "MilkHills", name := "rest", desc := "(I)I" } : Jvm.MethodName)) ∈ mh_WT := mh_in3 (i := 171) (by decide +kernel) rfl
theorem tw_3_172 : (Jvm.Cond.instanceMethod ({ cls := "MilkHills", name := "rest", desc := "(I)I" } : Jvm.MethodName)) ∈ mh_WT := mh_in3 (i := 172) (by decide +kernel) rfl
theorem tw_3_173 : (Jvm.Cond.selects "MilkHills" ({ cls := "MilkHills", name := "rest", desc := "(I)I" } : Jvm.MethodName) ({ cls := "MilkHills", name := "rest", desc := "(I)I" } : Jvm.MethodName)) ∈ mh_WT := mh_in3 (i := 173) (by decide +kernel) rfl
theorem tw_3_174 : (Jvm.Cond.code ({ cls := "MilkHills", name := "rest", desc := "(I)I" } : Jvm.MethodName) prog_1_method_11_code (3 : Nat) (Option.some Jvm.ClassFile.FieldType.int)) ∈ mh_WT := mh_in3 (i := 174) (by decide +kernel) rfl
theorem tw_3_175 : (Jvm.Cond.methodLink "MilkHillsLaw" (56 : Nat) ({ cls := "MilkHills", name := "giveUp", desc := "(I)I" } : Jvm.MethodName)) ∈ mh_WT := mh_in3 (i := 175) (by decide +kernel) rfl
theorem tw_3_176 : (Jvm.Cond.instanceMethod ({ cls := "MilkHills", name := "giveUp", desc := "(I)I" } : Jvm.MethodName)) ∈ mh_WT := mh_in3 (i := 176) (by decide +kernel) rfl
theorem tw_3_177 : (Jvm.Cond.selects "MilkHills" ({ cls := "MilkHills", name := "giveUp", desc := "(I)I" } : Jvm.MethodName) ({ cls := "MilkHills", name := "giveUp", desc := "(I)I" } : Jvm.MethodName)) ∈ mh_WT := mh_in3 (i := 177) (by decide +kernel) rfl
theorem tw_3_178 : (Jvm.Cond.code ({ cls := "MilkHills", name := "giveUp", desc := "(I)I" } : Jvm.MethodName) prog_1_method_12_code (4 : Nat) (Option.some Jvm.ClassFile.FieldType.int)) ∈ mh_WT := mh_in3 (i := 178) (by decide +kernel) rfl
theorem tw_3_179 : (Jvm.Cond.methodLink "MilkHills" (175 : Nat) ({ cls := "MilkHills$World", name := "cheesePrice", desc := "(LMilkHills$Churn;)I" } : Jvm.MethodName)) ∈ mh_WT := mh_in3 (i := 179) (by decide +kernel) rfl
theorem tw_3_180 : (Jvm.Cond.instanceMethod ({ cls := "MilkHills$World", name := "cheesePrice", desc := "(LMilkHills$Churn;)I" } : Jvm.MethodName)) ∈ mh_WT := mh_in3 (i := 180) (by decide +kernel) rfl
theorem tw_3_181 : (Jvm.Cond.selects "MilkHills$World" ({ cls := "MilkHills$World", name := "cheesePrice", desc := "(LMilkHills$Churn;)I" } : Jvm.MethodName) ({ cls := "MilkHills$World", name := "cheesePrice", desc := "(LMilkHills$Churn;)I" } : Jvm.MethodName)) ∈ mh_WT := mh_in3 (i := 181) (by decide +kernel) rfl
theorem tw_3_182 : (Jvm.Cond.code ({ cls := "MilkHills$World", name := "cheesePrice", desc := "(LMilkHills$Churn;)I" } : Jvm.MethodName) prog_12_method_7_code (2 : Nat) (Option.some Jvm.ClassFile.FieldType.int)) ∈ mh_WT := mh_in3 (i := 182) (by decide +kernel) rfl
theorem tw_3_183 : (Jvm.Cond.methodLink "MilkHills$World" (122 : Nat) ({ cls := "java/lang/Math", name := "max", desc := "(II)I" } : Jvm.MethodName)) ∈ mh_WT := mh_in3 (i := 183) (by decide +kernel) rfl
theorem tw_3_184 : (Jvm.Cond.methodLink "MilkHills" (179 : Nat) ({ cls := "MilkHills$World", name := "takeIn", desc := "(I)V" } : Jvm.MethodName)) ∈ mh_WT := mh_in3 (i := 184) (by decide +kernel) rfl
theorem tw_3_185 : (Jvm.Cond.instanceMethod ({ cls := "MilkHills$World", name := "takeIn", desc := "(I)V" } : Jvm.MethodName)) ∈ mh_WT := mh_in3 (i := 185) (by decide +kernel) rfl
theorem tw_3_186 : (Jvm.Cond.selects "MilkHills$World" ({ cls := "MilkHills$World", name := "takeIn", desc := "(I)V" } : Jvm.MethodName) ({ cls := "MilkHills$World", name := "takeIn", desc := "(I)V" } : Jvm.MethodName)) ∈ mh_WT := mh_in3 (i := 186) (by decide +kernel) rfl
theorem tw_3_187 : (Jvm.Cond.code ({ cls := "MilkHills$World", name := "takeIn", desc := "(I)V" } : Jvm.MethodName) prog_12_method_8_code (2 : Nat) (Option.none : Option Jvm.ClassFile.FieldType)) ∈ mh_WT := mh_in3 (i := 187) (by decide +kernel) rfl
theorem tw_3_188 : (Jvm.Cond.constant "MilkHills$World" (128 : Nat) (-99999 : Int32)) ∈ mh_WT := mh_in3 (i := 188) (by decide +kernel) rfl
theorem tw_3_189 : (Jvm.Cond.constant "MilkHills$World" (129 : Nat) (99999 : Int32)) ∈ mh_WT := mh_in3 (i := 189) (by decide +kernel) rfl
theorem tw_3_190 : (Jvm.Cond.methodLink "MilkHills$World" (130 : Nat) ({ cls := "java/lang/Math", name := "min", desc := "(II)I" } : Jvm.MethodName)) ∈ mh_WT := mh_in3 (i := 190) (by decide +kernel) rfl
theorem tw_3_191 : (Jvm.Cond.methodLink "MilkHillsLaw" (60 : Nat) ({ cls := "MilkHills", name := "refill", desc := "(I)I" } : Jvm.MethodName)) ∈ mh_WT := mh_in3 (i := 191) (by decide +kernel) rfl
theorem tw_3_192 : (Jvm.Cond.instanceMethod ({ cls := "MilkHills", name := "refill", desc := "(I)I" } : Jvm.MethodName)) ∈ mh_WT := mh_in3 (i := 192) (by decide +kernel) rfl
theorem tw_3_193 : (Jvm.Cond.selects "MilkHills" ({ cls := "MilkHills", name := "refill", desc := "(I)I" } : Jvm.MethodName) ({ cls := "MilkHills", name := "refill", desc := "(I)I" } : Jvm.MethodName)) ∈ mh_WT := mh_in3 (i := 193) (by decide +kernel) rfl
theorem tw_3_194 : (Jvm.Cond.code ({ cls := "MilkHills", name := "refill", desc := "(I)I" } : Jvm.MethodName) prog_1_method_13_code (3 : Nat) (Option.some Jvm.ClassFile.FieldType.int)) ∈ mh_WT := mh_in3 (i := 194) (by decide +kernel) rfl
theorem tw_3_195 : (Jvm.Cond.methodLink "MilkHillsLaw" (66 : Nat) ({ cls := "MilkHills", name := "feed", desc := "(JI)I" } : Jvm.MethodName)) ∈ mh_WT := mh_in3 (i := 195) (by decide +kernel) rfl
theorem tw_3_196 : (Jvm.Cond.instanceMethod ({ cls := "MilkHills", name := "feed", desc := "(JI)I" } : Jvm.MethodName)) ∈ mh_WT := mh_in3 (i := 196) (by decide +kernel) rfl
theorem tw_3_197 : (Jvm.Cond.selects "MilkHills" ({ cls := "MilkHills", name := "feed", desc := "(JI)I" } : Jvm.MethodName) ({ cls := "MilkHills", name := "feed", desc := "(JI)I" } : Jvm.MethodName)) ∈ mh_WT := mh_in3 (i := 197) (by decide +kernel) rfl
theorem tw_3_198 : (Jvm.Cond.code ({ cls := "MilkHills", name := "feed", desc := "(JI)I" } : Jvm.MethodName) prog_1_method_14_code (5 : Nat) (Option.some Jvm.ClassFile.FieldType.int)) ∈ mh_WT := mh_in3 (i := 198) (by decide +kernel) rfl
theorem tw_3_199 : (Jvm.Cond.methodLink "MilkHillsLaw" (71 : Nat) ({ cls := "MilkHills", name := "text", desc := "(I)I" } : Jvm.MethodName)) ∈ mh_WT := mh_in3 (i := 199) (by decide +kernel) rfl
theorem tw_3_200 : (Jvm.Cond.instanceMethod ({ cls := "MilkHills", name := "text", desc := "(I)I" } : Jvm.MethodName)) ∈ mh_WT := mh_in3 (i := 200) (by decide +kernel) rfl
theorem tw_3_201 : (Jvm.Cond.selects "MilkHills" ({ cls := "MilkHills", name := "text", desc := "(I)I" } : Jvm.MethodName) ({ cls := "MilkHills", name := "text", desc := "(I)I" } : Jvm.MethodName)) ∈ mh_WT := mh_in3 (i := 201) (by decide +kernel) rfl
theorem tw_3_202 : (Jvm.Cond.code ({ cls := "MilkHills", name := "text", desc := "(I)I" } : Jvm.MethodName) prog_1_method_15_code (3 : Nat) (Option.some Jvm.ClassFile.FieldType.int)) ∈ mh_WT := mh_in3 (i := 202) (by decide +kernel) rfl
theorem tw_3_203 : (Jvm.Cond.methodLink "MilkHills" (189 : Nat) ({ cls := "MilkHills$World", name := "lawOf", desc := "(I)LMilkHills$Text;" } : Jvm.MethodName)) ∈ mh_WT := mh_in3 (i := 203) (by decide +kernel) rfl
theorem tw_3_204 : (Jvm.Cond.instanceMethod ({ cls := "MilkHills$World", name := "lawOf", desc := "(I)LMilkHills$Text;" } : Jvm.MethodName)) ∈ mh_WT := mh_in3 (i := 204) (by decide +kernel) rfl
theorem tw_3_205 : (Jvm.Cond.selects "MilkHills$World" ({ cls := "MilkHills$World", name := "lawOf", desc := "(I)LMilkHills$Text;" } : Jvm.MethodName) ({ cls := "MilkHills$World", name := "lawOf", desc := "(I)LMilkHills$Text;" } : Jvm.MethodName)) ∈ mh_WT := mh_in3 (i := 205) (by decide +kernel) rfl
theorem tw_3_206 : (Jvm.Cond.code ({ cls := "MilkHills$World", name := "lawOf", desc := "(I)LMilkHills$Text;" } : Jvm.MethodName) prog_12_method_3_code (2 : Nat) (Option.some (Jvm.ClassFile.FieldType.object "MilkHills$Text"))) ∈ mh_WT := mh_in3 (i := 206) (by decide +kernel) rfl
theorem tw_3_207 : (Jvm.Cond.methodLink "MilkHills" (193 : Nat) ({ cls := "MilkHills$Text", name := "read", desc := "([BI)I" } : Jvm.MethodName)) ∈ mh_WT := mh_in3 (i := 207) (by decide +kernel) rfl
theorem tw_3_208 : (Jvm.Cond.methodLink "MilkHillsLaw" (75 : Nat) ({ cls := "MilkHills", name := "law", desc := "(IIII)I" } : Jvm.MethodName)) ∈ mh_WT := mh_in3 (i := 208) (by decide +kernel) rfl
theorem tw_3_209 : (Jvm.Cond.instanceMethod ({ cls := "MilkHills", name := "law", desc := "(IIII)I" } : Jvm.MethodName)) ∈ mh_WT := mh_in3 (i := 209) (by decide +kernel) rfl
theorem tw_3_210 : (Jvm.Cond.selects "MilkHills" ({ cls := "MilkHills", name := "law", desc := "(IIII)I" } : Jvm.MethodName) ({ cls := "MilkHills", name := "law", desc := "(IIII)I" } : Jvm.MethodName)) ∈ mh_WT := mh_in3 (i := 210) (by decide +kernel) rfl
theorem tw_3_211 : (Jvm.Cond.code ({ cls := "MilkHills", name := "law", desc := "(IIII)I" } : Jvm.MethodName) prog_1_method_16_code (5 : Nat) (Option.some Jvm.ClassFile.FieldType.int)) ∈ mh_WT := mh_in3 (i := 211) (by decide +kernel) rfl
theorem tw_3_212 : (Jvm.Cond.methodLink "MilkHills" (199 : Nat) ({ cls := "MilkHills$Text", name := "value", desc := "(III)I" } : Jvm.MethodName)) ∈ mh_WT := mh_in3 (i := 212) (by decide +kernel) rfl
theorem tw_3_213 : (Jvm.Cond.methodLink "MilkHillsLaw" (80 : Nat) ({ cls := "MilkHills", name := "quarters", desc := "(I)I" } : Jvm.MethodName)) ∈ mh_WT := mh_in3 (i := 213) (by decide +kernel) rfl
theorem tw_3_214 : (Jvm.Cond.instanceMethod ({ cls := "MilkHills", name := "quarters", desc := "(I)I" } : Jvm.MethodName)) ∈ mh_WT := mh_in3 (i := 214) (by decide +kernel) rfl
theorem tw_3_215 : (Jvm.Cond.selects "MilkHills" ({ cls := "MilkHills", name := "quarters", desc := "(I)I" } : Jvm.MethodName) ({ cls := "MilkHills", name := "quarters", desc := "(I)I" } : Jvm.MethodName)) ∈ mh_WT := mh_in3 (i := 215) (by decide +kernel) rfl
theorem tw_3_216 : (Jvm.Cond.code ({ cls := "MilkHills", name := "quarters", desc := "(I)I" } : Jvm.MethodName) prog_1_method_17_code (3 : Nat) (Option.some Jvm.ClassFile.FieldType.int)) ∈ mh_WT := mh_in3 (i := 216) (by decide +kernel) rfl
theorem tw_3_217 : (Jvm.Cond.methodLink "MilkHills" (203 : Nat) ({ cls := "MilkHills$World", name := "passQuarter", desc := "()V" } : Jvm.MethodName)) ∈ mh_WT := mh_in3 (i := 217) (by decide +kernel) rfl
theorem tw_3_218 : (Jvm.Cond.instanceMethod ({ cls := "MilkHills$World", name := "passQuarter", desc := "()V" } : Jvm.MethodName)) ∈ mh_WT := mh_in3 (i := 218) (by decide +kernel) rfl
theorem tw_3_219 : (Jvm.Cond.selects "MilkHills$World" ({ cls := "MilkHills$World", name := "passQuarter", desc := "()V" } : Jvm.MethodName) ({ cls := "MilkHills$World", name := "passQuarter", desc := "()V" } : Jvm.MethodName)) ∈ mh_WT := mh_in3 (i := 219) (by decide +kernel) rfl
theorem tw_3_220 : (Jvm.Cond.code ({ cls := "MilkHills$World", name := "passQuarter", desc := "()V" } : Jvm.MethodName) prog_12_method_14_code (2 : Nat) (Option.none : Option Jvm.ClassFile.FieldType)) ∈ mh_WT := mh_in3 (i := 220) (by decide +kernel) rfl
theorem tw_3_221 : (Jvm.Cond.methodLink "MilkHills$World" (145 : Nat) ({ cls := "MilkHills$World", name := "pass", desc := "(LMilkHills$Churn;I)Z" } : Jvm.MethodName)) ∈ mh_WT := mh_in3 (i := 221) (by decide +kernel) rfl
theorem tw_3_222 : (Jvm.Cond.instanceMethod ({ cls := "MilkHills$World", name := "pass", desc := "(LMilkHills$Churn;I)Z" } : Jvm.MethodName)) ∈ mh_WT := mh_in3 (i := 222) (by decide +kernel) rfl
theorem tw_3_223 : (Jvm.Cond.selects "MilkHills$World" ({ cls := "MilkHills$World", name := "pass", desc := "(LMilkHills$Churn;I)Z" } : Jvm.MethodName) ({ cls := "MilkHills$World", name := "pass", desc := "(LMilkHills$Churn;I)Z" } : Jvm.MethodName)) ∈ mh_WT := mh_in3 (i := 223) (by decide +kernel) rfl
theorem tw_3_224 : (Jvm.Cond.code ({ cls := "MilkHills$World", name := "pass", desc := "(LMilkHills$Churn;I)Z" } : Jvm.MethodName) prog_12_method_15_code (4 : Nat) (Option.some Jvm.ClassFile.FieldType.boolean)) ∈ mh_WT := mh_in3 (i := 224) (by decide +kernel) rfl
theorem tw_3_225 : (Jvm.Cond.methodLink "MilkHills$World" (160 : Nat) ({ cls := "MilkHills$World", name := "warm", desc := "(II)I" } : Jvm.MethodName)) ∈ mh_WT := mh_in3 (i := 225) (by decide +kernel) rfl
theorem tw_3_226 : (Jvm.Cond.methodLink "MilkHills$World" (163 : Nat) ({ cls := "MilkHills$Kind", name := "warms", desc := "(II)I" } : Jvm.MethodName)) ∈ mh_WT := mh_in3 (i := 226) (by decide +kernel) rfl
theorem tw_3_227 : (Jvm.Cond.instanceMethod ({ cls := "MilkHills$Kind", name := "warms", desc := "(II)I" } : Jvm.MethodName)) ∈ mh_WT := mh_in3 (i := 227) (by decide +kernel) rfl
theorem tw_3_228 : (Jvm.Cond.selects "MilkHills$Kind" ({ cls := "MilkHills$Kind", name := "warms", desc := "(II)I" } : Jvm.MethodName) ({ cls := "MilkHills$Kind", name := "warms", desc := "(II)I" } : Jvm.MethodName)) ∈ mh_WT := mh_in3 (i := 228) (by decide +kernel) rfl
theorem tw_3_229 : (Jvm.Cond.sameMethod "MilkHills$Kind" "MilkHills$Kind" "warms" "(II)I") ∈ mh_WT := mh_in3 (i := 229) (by decide +kernel) rfl
theorem tw_3_230 : (Jvm.Cond.selects "MilkHills$Creamed" ({ cls := "MilkHills$Kind", name := "warms", desc := "(II)I" } : Jvm.MethodName) ({ cls := "MilkHills$Kind", name := "warms", desc := "(II)I" } : Jvm.MethodName)) ∈ mh_WT := mh_in3 (i := 230) (by decide +kernel) rfl
theorem tw_3_231 : (Jvm.Cond.selects "MilkHills$Goats" ({ cls := "MilkHills$Kind", name := "warms", desc := "(II)I" } : Jvm.MethodName) ({ cls := "MilkHills$Goats", name := "warms", desc := "(II)I" } : Jvm.MethodName)) ∈ mh_WT := mh_in3 (i := 231) (by decide +kernel) rfl
theorem tw_3_232 : (Jvm.Cond.instanceMethod ({ cls := "MilkHills$Goats", name := "warms", desc := "(II)I" } : Jvm.MethodName)) ∈ mh_WT := mh_in3 (i := 232) (by decide +kernel) rfl
theorem tw_3_233 : (Jvm.Cond.code ({ cls := "MilkHills$Goats", name := "warms", desc := "(II)I" } : Jvm.MethodName) prog_4_method_2_code (3 : Nat) (Option.some Jvm.ClassFile.FieldType.int)) ∈ mh_WT := mh_in3 (i := 233) (by decide +kernel) rfl
theorem tw_3_234 : (Jvm.Cond.methodLink "MilkHills$Goats" (7 : Nat) ({ cls := "MilkHills$Kind", name := "warms", desc := "(II)I" } : Jvm.MethodName)) ∈ mh_WT := mh_in3 (i := 234) (by decide +kernel) rfl
theorem tw_3_235 : (Jvm.Cond.selects "MilkHills$Lidded" ({ cls := "MilkHills$Kind", name := "warms", desc := "(II)I" } : Jvm.MethodName) ({ cls := "MilkHills$Lidded", name := "warms", desc := "(II)I" } : Jvm.MethodName)) ∈ mh_WT := mh_in3 (i := 235) (by decide +kernel) rfl
theorem tw_3_236 : (Jvm.Cond.instanceMethod ({ cls := "MilkHills$Lidded", name := "warms", desc := "(II)I" } : Jvm.MethodName)) ∈ mh_WT := mh_in3 (i := 236) (by decide +kernel) rfl
theorem tw_3_237 : (Jvm.Cond.code ({ cls := "MilkHills$Lidded", name := "warms", desc := "(II)I" } : Jvm.MethodName) prog_6_method_2_code (3 : Nat) (Option.some Jvm.ClassFile.FieldType.int)) ∈ mh_WT := mh_in3 (i := 237) (by decide +kernel) rfl
theorem tw_3_238 : (Jvm.Cond.methodLink "MilkHills$Lidded" (7 : Nat) ({ cls := "MilkHills$Kind", name := "warms", desc := "(II)I" } : Jvm.MethodName)) ∈ mh_WT := mh_in3 (i := 238) (by decide +kernel) rfl
theorem tw_3_239 : (Jvm.Cond.selects "MilkHills$Old" ({ cls := "MilkHills$Kind", name := "warms", desc := "(II)I" } : Jvm.MethodName) ({ cls := "MilkHills$Old", name := "warms", desc := "(II)I" } : Jvm.MethodName)) ∈ mh_WT := mh_in3 (i := 239) (by decide +kernel) rfl
theorem tw_4_0 : (Jvm.Cond.instanceMethod ({ cls := "MilkHills$Old", name := "warms", desc := "(II)I" } : Jvm.MethodName)) ∈ mh_WT := mh_in4 (i := 0) (by decide +kernel) rfl
theorem tw_4_1 : (Jvm.Cond.code ({ cls := "MilkHills$Old", name := "warms", desc := "(II)I" } : Jvm.MethodName) prog_7_method_2_code (3 : Nat) (Option.some Jvm.ClassFile.FieldType.int)) ∈ mh_WT := mh_in4 (i := 1) (by decide +kernel) rfl
theorem tw_4_2 : (Jvm.Cond.methodLink "MilkHills$Old" (7 : Nat) ({ cls := "MilkHills$Creamed", name := "warms", desc := "(II)I" } : Jvm.MethodName)) ∈ mh_WT := mh_in4 (i := 2) (by decide +kernel) rfl
theorem tw_4_3 : (Jvm.Cond.sameMethod "MilkHills$Creamed" "MilkHills$Kind" "warms" "(II)I") ∈ mh_WT := mh_in4 (i := 3) (by decide +kernel) rfl
theorem tw_4_5 : (Jvm.Cond.selects "MilkHills$Running" ({ cls := "MilkHills$Kind", name := "warms", desc := "(II)I" } : Jvm.MethodName) ({ cls := "MilkHills$Goats", name := "warms", desc := "(II)I" } : Jvm.MethodName)) ∈ mh_WT := mh_in4 (i := 5) (by decide +kernel) rfl
theorem tw_4_6 : (Jvm.Cond.selects "MilkHills$Sealed" ({ cls := "MilkHills$Kind", name := "warms", desc := "(II)I" } : Jvm.MethodName) ({ cls := "MilkHills$Sealed", name := "warms", desc := "(II)I" } : Jvm.MethodName)) ∈ mh_WT := mh_in4 (i := 6) (by decide +kernel) rfl
theorem tw_4_7 : (Jvm.Cond.instanceMethod ({ cls := "MilkHills$Sealed", name := "warms", desc := "(II)I" } : Jvm.MethodName)) ∈ mh_WT := mh_in4 (i := 7) (by decide +kernel) rfl
theorem tw_4_8 : (Jvm.Cond.code ({ cls := "MilkHills$Sealed", name := "warms", desc := "(II)I" } : Jvm.MethodName) prog_10_method_2_code (3 : Nat) (Option.some Jvm.ClassFile.FieldType.int)) ∈ mh_WT := mh_in4 (i := 8) (by decide +kernel) rfl
theorem tw_4_9 : (Jvm.Cond.methodLink "MilkHills$Sealed" (7 : Nat) ({ cls := "MilkHills$Lidded", name := "warms", desc := "(II)I" } : Jvm.MethodName)) ∈ mh_WT := mh_in4 (i := 9) (by decide +kernel) rfl
theorem tw_4_10 : (Jvm.Cond.methodLink "MilkHills$Sealed" (11 : Nat) ({ cls := "java/lang/Math", name := "max", desc := "(II)I" } : Jvm.MethodName)) ∈ mh_WT := mh_in4 (i := 10) (by decide +kernel) rfl
theorem tw_4_11 : (Jvm.Cond.code ({ cls := "MilkHills$Kind", name := "warms", desc := "(II)I" } : Jvm.MethodName) prog_5_method_3_code (3 : Nat) (Option.some Jvm.ClassFile.FieldType.int)) ∈ mh_WT := mh_in4 (i := 11) (by decide +kernel) rfl
theorem tw_4_12 : (Jvm.Cond.methodLink "MilkHills$World" (141 : Nat) ({ cls := "MilkHills$Churn", name := "sourBy", desc := "(I)V" } : Jvm.MethodName)) ∈ mh_WT := mh_in4 (i := 12) (by decide +kernel) rfl
theorem tw_4_13 : (Jvm.Cond.instanceMethod ({ cls := "MilkHills$Churn", name := "sourBy", desc := "(I)V" } : Jvm.MethodName)) ∈ mh_WT := mh_in4 (i := 13) (by decide +kernel) rfl
theorem tw_4_14 : (Jvm.Cond.selects "MilkHills$Churn" ({ cls := "MilkHills$Churn", name := "sourBy", desc := "(I)V" } : Jvm.MethodName) ({ cls := "MilkHills$Churn", name := "sourBy", desc := "(I)V" } : Jvm.MethodName)) ∈ mh_WT := mh_in4 (i := 14) (by decide +kernel) rfl
theorem tw_4_15 : (Jvm.Cond.code ({ cls := "MilkHills$Churn", name := "sourBy", desc := "(I)V" } : Jvm.MethodName) prog_2_method_7_code (2 : Nat) (Option.none : Option Jvm.ClassFile.FieldType)) ∈ mh_WT := mh_in4 (i := 15) (by decide +kernel) rfl
theorem tw_4_16 : (Jvm.Cond.methodLink "MilkHills$Churn" (58 : Nat) ({ cls := "java/lang/Math", name := "min", desc := "(II)I" } : Jvm.MethodName)) ∈ mh_WT := mh_in4 (i := 16) (by decide +kernel) rfl
theorem tw_4_17 : (Jvm.Cond.methodLink "MilkHills$Churn" (64 : Nat) ({ cls := "java/lang/Math", name := "max", desc := "(II)I" } : Jvm.MethodName)) ∈ mh_WT := mh_in4 (i := 17) (by decide +kernel) rfl
theorem tw_4_18 : (Jvm.Cond.methodLink "MilkHills$World" (175 : Nat) ({ cls := "MilkHills$Kind", name := "jolts", desc := "(II)I" } : Jvm.MethodName)) ∈ mh_WT := mh_in4 (i := 18) (by decide +kernel) rfl
theorem tw_4_19 : (Jvm.Cond.instanceMethod ({ cls := "MilkHills$Kind", name := "jolts", desc := "(II)I" } : Jvm.MethodName)) ∈ mh_WT := mh_in4 (i := 19) (by decide +kernel) rfl
theorem tw_4_20 : (Jvm.Cond.selects "MilkHills$Kind" ({ cls := "MilkHills$Kind", name := "jolts", desc := "(II)I" } : Jvm.MethodName) ({ cls := "MilkHills$Kind", name := "jolts", desc := "(II)I" } : Jvm.MethodName)) ∈ mh_WT := mh_in4 (i := 20) (by decide +kernel) rfl
theorem tw_4_21 : (Jvm.Cond.sameMethod "MilkHills$Kind" "MilkHills$Kind" "jolts" "(II)I") ∈ mh_WT := mh_in4 (i := 21) (by decide +kernel) rfl
theorem tw_4_22 : (Jvm.Cond.selects "MilkHills$Creamed" ({ cls := "MilkHills$Kind", name := "jolts", desc := "(II)I" } : Jvm.MethodName) ({ cls := "MilkHills$Creamed", name := "jolts", desc := "(II)I" } : Jvm.MethodName)) ∈ mh_WT := mh_in4 (i := 22) (by decide +kernel) rfl
theorem tw_4_23 : (Jvm.Cond.instanceMethod ({ cls := "MilkHills$Creamed", name := "jolts", desc := "(II)I" } : Jvm.MethodName)) ∈ mh_WT := mh_in4 (i := 23) (by decide +kernel) rfl
theorem tw_4_24 : (Jvm.Cond.code ({ cls := "MilkHills$Creamed", name := "jolts", desc := "(II)I" } : Jvm.MethodName) prog_3_method_2_code (3 : Nat) (Option.some Jvm.ClassFile.FieldType.int)) ∈ mh_WT := mh_in4 (i := 24) (by decide +kernel) rfl
theorem tw_4_25 : (Jvm.Cond.selects "MilkHills$Goats" ({ cls := "MilkHills$Kind", name := "jolts", desc := "(II)I" } : Jvm.MethodName) ({ cls := "MilkHills$Kind", name := "jolts", desc := "(II)I" } : Jvm.MethodName)) ∈ mh_WT := mh_in4 (i := 25) (by decide +kernel) rfl
theorem tw_4_26 : (Jvm.Cond.selects "MilkHills$Lidded" ({ cls := "MilkHills$Kind", name := "jolts", desc := "(II)I" } : Jvm.MethodName) ({ cls := "MilkHills$Kind", name := "jolts", desc := "(II)I" } : Jvm.MethodName)) ∈ mh_WT := mh_in4 (i := 26) (by decide +kernel) rfl
theorem tw_4_27 : (Jvm.Cond.selects "MilkHills$Old" ({ cls := "MilkHills$Kind", name := "jolts", desc := "(II)I" } : Jvm.MethodName) ({ cls := "MilkHills$Old", name := "jolts", desc := "(II)I" } : Jvm.MethodName)) ∈ mh_WT := mh_in4 (i := 27) (by decide +kernel) rfl
theorem tw_4_28 : (Jvm.Cond.instanceMethod ({ cls := "MilkHills$Old", name := "jolts", desc := "(II)I" } : Jvm.MethodName)) ∈ mh_WT := mh_in4 (i := 28) (by decide +kernel) rfl
theorem tw_4_29 : (Jvm.Cond.code ({ cls := "MilkHills$Old", name := "jolts", desc := "(II)I" } : Jvm.MethodName) prog_7_method_3_code (3 : Nat) (Option.some Jvm.ClassFile.FieldType.int)) ∈ mh_WT := mh_in4 (i := 29) (by decide +kernel) rfl
theorem tw_4_30 : (Jvm.Cond.methodLink "MilkHills$Old" (11 : Nat) ({ cls := "MilkHills$Creamed", name := "jolts", desc := "(II)I" } : Jvm.MethodName)) ∈ mh_WT := mh_in4 (i := 30) (by decide +kernel) rfl
theorem tw_4_31 : (Jvm.Cond.selects "MilkHills$Running" ({ cls := "MilkHills$Kind", name := "jolts", desc := "(II)I" } : Jvm.MethodName) ({ cls := "MilkHills$Running", name := "jolts", desc := "(II)I" } : Jvm.MethodName)) ∈ mh_WT := mh_in4 (i := 31) (by decide +kernel) rfl
theorem tw_4_32 : (Jvm.Cond.instanceMethod ({ cls := "MilkHills$Running", name := "jolts", desc := "(II)I" } : Jvm.MethodName)) ∈ mh_WT := mh_in4 (i := 32) (by decide +kernel) rfl
theorem tw_4_33 : (Jvm.Cond.code ({ cls := "MilkHills$Running", name := "jolts", desc := "(II)I" } : Jvm.MethodName) prog_9_method_2_code (3 : Nat) (Option.some Jvm.ClassFile.FieldType.int)) ∈ mh_WT := mh_in4 (i := 33) (by decide +kernel) rfl
theorem tw_4_34 : (Jvm.Cond.methodLink "MilkHills$Running" (7 : Nat) ({ cls := "MilkHills$Goats", name := "jolts", desc := "(II)I" } : Jvm.MethodName)) ∈ mh_WT := mh_in4 (i := 34) (by decide +kernel) rfl
theorem tw_4_35 : (Jvm.Cond.sameMethod "MilkHills$Goats" "MilkHills$Kind" "jolts" "(II)I") ∈ mh_WT := mh_in4 (i := 35) (by decide +kernel) rfl
theorem tw_4_37 : (Jvm.Cond.methodLink "MilkHills$Running" (11 : Nat) ({ cls := "java/lang/Math", name := "max", desc := "(II)I" } : Jvm.MethodName)) ∈ mh_WT := mh_in4 (i := 37) (by decide +kernel) rfl
theorem tw_4_38 : (Jvm.Cond.selects "MilkHills$Sealed" ({ cls := "MilkHills$Kind", name := "jolts", desc := "(II)I" } : Jvm.MethodName) ({ cls := "MilkHills$Kind", name := "jolts", desc := "(II)I" } : Jvm.MethodName)) ∈ mh_WT := mh_in4 (i := 38) (by decide +kernel) rfl
theorem tw_4_39 : (Jvm.Cond.code ({ cls := "MilkHills$Kind", name := "jolts", desc := "(II)I" } : Jvm.MethodName) prog_5_method_4_code (3 : Nat) (Option.some Jvm.ClassFile.FieldType.int)) ∈ mh_WT := mh_in4 (i := 39) (by decide +kernel) rfl
theorem tw_4_40 : (Jvm.Cond.methodLink "MilkHills$World" (178 : Nat) ({ cls := "MilkHills$Churn", name := "shakeBy", desc := "(I)V" } : Jvm.MethodName)) ∈ mh_WT := mh_in4 (i := 40) (by decide +kernel) rfl
theorem tw_4_41 : (Jvm.Cond.instanceMethod ({ cls := "MilkHills$Churn", name := "shakeBy", desc := "(I)V" } : Jvm.MethodName)) ∈ mh_WT := mh_in4 (i := 41) (by decide +kernel) rfl
theorem tw_4_42 : (Jvm.Cond.selects "MilkHills$Churn" ({ cls := "MilkHills$Churn", name := "shakeBy", desc := "(I)V" } : Jvm.MethodName) ({ cls := "MilkHills$Churn", name := "shakeBy", desc := "(I)V" } : Jvm.MethodName)) ∈ mh_WT := mh_in4 (i := 42) (by decide +kernel) rfl
theorem tw_4_43 : (Jvm.Cond.code ({ cls := "MilkHills$Churn", name := "shakeBy", desc := "(I)V" } : Jvm.MethodName) prog_2_method_8_code (2 : Nat) (Option.none : Option Jvm.ClassFile.FieldType)) ∈ mh_WT := mh_in4 (i := 43) (by decide +kernel) rfl
theorem tw_4_44 : (Jvm.Cond.methodLink "MilkHills$World" (149 : Nat) ({ cls := "MilkHills$World", name := "worth", desc := "(LMilkHills$Churn;)I" } : Jvm.MethodName)) ∈ mh_WT := mh_in4 (i := 44) (by decide +kernel) rfl
theorem tw_4_45 : (Jvm.Cond.instanceMethod ({ cls := "MilkHills$World", name := "worth", desc := "(LMilkHills$Churn;)I" } : Jvm.MethodName)) ∈ mh_WT := mh_in4 (i := 45) (by decide +kernel) rfl
theorem tw_4_46 : (Jvm.Cond.selects "MilkHills$World" ({ cls := "MilkHills$World", name := "worth", desc := "(LMilkHills$Churn;)I" } : Jvm.MethodName) ({ cls := "MilkHills$World", name := "worth", desc := "(LMilkHills$Churn;)I" } : Jvm.MethodName)) ∈ mh_WT := mh_in4 (i := 46) (by decide +kernel) rfl
theorem tw_4_47 : (Jvm.Cond.code ({ cls := "MilkHills$World", name := "worth", desc := "(LMilkHills$Churn;)I" } : Jvm.MethodName) prog_12_method_6_code (2 : Nat) (Option.some Jvm.ClassFile.FieldType.int)) ∈ mh_WT := mh_in4 (i := 47) (by decide +kernel) rfl
theorem tw_4_48 : (Jvm.Cond.methodLink "MilkHills$World" (109 : Nat) ({ cls := "MilkHills$Churn", name := "state", desc := "()I" } : Jvm.MethodName)) ∈ mh_WT := mh_in4 (i := 48) (by decide +kernel) rfl
theorem tw_4_49 : (Jvm.Cond.methodLink "MilkHills$World" (153 : Nat) ({ cls := "MilkHills$World", name := "takeIn", desc := "(I)V" } : Jvm.MethodName)) ∈ mh_WT := mh_in4 (i := 49) (by decide +kernel) rfl
theorem tw_4_50 : (Jvm.Cond.methodLink "MilkHillsLaw" (84 : Nat) ({ cls := "MilkHills", name := "days", desc := "(I)I" } : Jvm.MethodName)) ∈ mh_WT := mh_in4 (i := 50) (by decide +kernel) rfl
theorem tw_4_51 : (Jvm.Cond.instanceMethod ({ cls := "MilkHills", name := "days", desc := "(I)I" } : Jvm.MethodName)) ∈ mh_WT := mh_in4 (i := 51) (by decide +kernel) rfl
theorem tw_4_52 : (Jvm.Cond.selects "MilkHills" ({ cls := "MilkHills", name := "days", desc := "(I)I" } : Jvm.MethodName) ({ cls := "MilkHills", name := "days", desc := "(I)I" } : Jvm.MethodName)) ∈ mh_WT := mh_in4 (i := 52) (by decide +kernel) rfl
theorem tw_4_53 : (Jvm.Cond.code ({ cls := "MilkHills", name := "days", desc := "(I)I" } : Jvm.MethodName) prog_1_method_18_code (3 : Nat) (Option.some Jvm.ClassFile.FieldType.int)) ∈ mh_WT := mh_in4 (i := 53) (by decide +kernel) rfl
theorem tw_4_54 : (Jvm.Cond.methodLink "MilkHills" (209 : Nat) ({ cls := "MilkHills$World", name := "draw", desc := "()I" } : Jvm.MethodName)) ∈ mh_WT := mh_in4 (i := 54) (by decide +kernel) rfl
theorem tw_4_55 : (Jvm.Cond.instanceMethod ({ cls := "MilkHills$World", name := "draw", desc := "()I" } : Jvm.MethodName)) ∈ mh_WT := mh_in4 (i := 55) (by decide +kernel) rfl
theorem tw_4_56 : (Jvm.Cond.selects "MilkHills$World" ({ cls := "MilkHills$World", name := "draw", desc := "()I" } : Jvm.MethodName) ({ cls := "MilkHills$World", name := "draw", desc := "()I" } : Jvm.MethodName)) ∈ mh_WT := mh_in4 (i := 56) (by decide +kernel) rfl
theorem tw_4_57 : (Jvm.Cond.code ({ cls := "MilkHills$World", name := "draw", desc := "()I" } : Jvm.MethodName) prog_12_method_12_code (1 : Nat) (Option.some Jvm.ClassFile.FieldType.int)) ∈ mh_WT := mh_in4 (i := 57) (by decide +kernel) rfl
theorem tw_4_58 : (Jvm.Cond.constant "MilkHills$World" (136 : Nat) (1103515245 : Int32)) ∈ mh_WT := mh_in4 (i := 58) (by decide +kernel) rfl
theorem tw_4_59 : (Jvm.Cond.methodLink "MilkHills" (213 : Nat) ({ cls := "MilkHills$World", name := "strike", desc := "()I" } : Jvm.MethodName)) ∈ mh_WT := mh_in4 (i := 59) (by decide +kernel) rfl
theorem tw_4_60 : (Jvm.Cond.instanceMethod ({ cls := "MilkHills$World", name := "strike", desc := "()I" } : Jvm.MethodName)) ∈ mh_WT := mh_in4 (i := 60) (by decide +kernel) rfl
theorem tw_4_61 : (Jvm.Cond.selects "MilkHills$World" ({ cls := "MilkHills$World", name := "strike", desc := "()I" } : Jvm.MethodName) ({ cls := "MilkHills$World", name := "strike", desc := "()I" } : Jvm.MethodName)) ∈ mh_WT := mh_in4 (i := 61) (by decide +kernel) rfl
theorem tw_4_62 : (Jvm.Cond.code ({ cls := "MilkHills$World", name := "strike", desc := "()I" } : Jvm.MethodName) prog_12_method_13_code (3 : Nat) (Option.some Jvm.ClassFile.FieldType.int)) ∈ mh_WT := mh_in4 (i := 62) (by decide +kernel) rfl
theorem tw_4_63 : (Jvm.Cond.methodLink "MilkHillsLaw" (88 : Nat) ({ cls := "MilkHills", name := "thunder", desc := "()I" } : Jvm.MethodName)) ∈ mh_WT := mh_in4 (i := 63) (by decide +kernel) rfl
theorem tw_4_64 : (Jvm.Cond.instanceMethod ({ cls := "MilkHills", name := "thunder", desc := "()I" } : Jvm.MethodName)) ∈ mh_WT := mh_in4 (i := 64) (by decide +kernel) rfl
theorem tw_4_65 : (Jvm.Cond.selects "MilkHills" ({ cls := "MilkHills", name := "thunder", desc := "()I" } : Jvm.MethodName) ({ cls := "MilkHills", name := "thunder", desc := "()I" } : Jvm.MethodName)) ∈ mh_WT := mh_in4 (i := 65) (by decide +kernel) rfl
theorem tw_4_66 : (Jvm.Cond.code ({ cls := "MilkHills", name := "thunder", desc := "()I" } : Jvm.MethodName) prog_1_method_19_code (1 : Nat) (Option.some Jvm.ClassFile.FieldType.int)) ∈ mh_WT := mh_in4 (i := 66) (by decide +kernel) rfl
theorem tw_4_67 : (Jvm.Cond.methodLink "MilkHillsLaw" (93 : Nat) ({ cls := "MilkHills", name := "then", desc := "(III)I" } : Jvm.MethodName)) ∈ mh_WT := mh_in4 (i := 67) (by decide +kernel) rfl
theorem tw_4_68 : (Jvm.Cond.instanceMethod ({ cls := "MilkHills", name := "then", desc := "(III)I" } : Jvm.MethodName)) ∈ mh_WT := mh_in4 (i := 68) (by decide +kernel) rfl
theorem tw_4_69 : (Jvm.Cond.selects "MilkHills" ({ cls := "MilkHills", name := "then", desc := "(III)I" } : Jvm.MethodName) ({ cls := "MilkHills", name := "then", desc := "(III)I" } : Jvm.MethodName)) ∈ mh_WT := mh_in4 (i := 69) (by decide +kernel) rfl
theorem tw_4_70 : (Jvm.Cond.code ({ cls := "MilkHills", name := "then", desc := "(III)I" } : Jvm.MethodName) prog_1_method_20_code (6 : Nat) (Option.some Jvm.ClassFile.FieldType.int)) ∈ mh_WT := mh_in4 (i := 70) (by decide +kernel) rfl
theorem tw_4_71 : (Jvm.Cond.methodLink "MilkHills" (216 : Nat) ({ cls := "MilkHills$Churn", name := "copy", desc := "(LMilkHills$Churn;)V" } : Jvm.MethodName)) ∈ mh_WT := mh_in4 (i := 71) (by decide +kernel) rfl
theorem tw_4_72 : (Jvm.Cond.instanceMethod ({ cls := "MilkHills$Churn", name := "copy", desc := "(LMilkHills$Churn;)V" } : Jvm.MethodName)) ∈ mh_WT := mh_in4 (i := 72) (by decide +kernel) rfl
theorem tw_4_73 : (Jvm.Cond.selects "MilkHills$Churn" ({ cls := "MilkHills$Churn", name := "copy", desc := "(LMilkHills$Churn;)V" } : Jvm.MethodName) ({ cls := "MilkHills$Churn", name := "copy", desc := "(LMilkHills$Churn;)V" } : Jvm.MethodName)) ∈ mh_WT := mh_in4 (i := 73) (by decide +kernel) rfl
theorem tw_4_74 : (Jvm.Cond.code ({ cls := "MilkHills$Churn", name := "copy", desc := "(LMilkHills$Churn;)V" } : Jvm.MethodName) prog_2_method_3_code (2 : Nat) (Option.none : Option Jvm.ClassFile.FieldType)) ∈ mh_WT := mh_in4 (i := 74) (by decide +kernel) rfl
theorem tw_4_75 : (Jvm.Cond.methodLink "MilkHills" (220 : Nat) ({ cls := "MilkHills$World", name := "pass", desc := "(LMilkHills$Churn;I)Z" } : Jvm.MethodName)) ∈ mh_WT := mh_in4 (i := 75) (by decide +kernel) rfl
theorem tw_4_76 : (Jvm.Cond.methodLink "MilkHillsLaw" (97 : Nat) ({ cls := "MilkHills", name := "relays", desc := "(III)I" } : Jvm.MethodName)) ∈ mh_WT := mh_in4 (i := 76) (by decide +kernel) rfl
theorem tw_4_77 : (Jvm.Cond.instanceMethod ({ cls := "MilkHills", name := "relays", desc := "(III)I" } : Jvm.MethodName)) ∈ mh_WT := mh_in4 (i := 77) (by decide +kernel) rfl
theorem tw_4_78 : (Jvm.Cond.selects "MilkHills" ({ cls := "MilkHills", name := "relays", desc := "(III)I" } : Jvm.MethodName) ({ cls := "MilkHills", name := "relays", desc := "(III)I" } : Jvm.MethodName)) ∈ mh_WT := mh_in4 (i := 78) (by decide +kernel) rfl
theorem tw_4_79 : (Jvm.Cond.code ({ cls := "MilkHills", name := "relays", desc := "(III)I" } : Jvm.MethodName) prog_1_method_21_code (6 : Nat) (Option.some Jvm.ClassFile.FieldType.int)) ∈ mh_WT := mh_in4 (i := 79) (by decide +kernel) rfl
theorem tw_4_80 : (Jvm.Cond.methodLink "MilkHills" (224 : Nat) ({ cls := "MilkHills$Churn", name := "standsSweet", desc := "()Z" } : Jvm.MethodName)) ∈ mh_WT := mh_in4 (i := 80) (by decide +kernel) rfl
theorem tw_4_81 : (Jvm.Cond.instanceMethod ({ cls := "MilkHills$Churn", name := "standsSweet", desc := "()Z" } : Jvm.MethodName)) ∈ mh_WT := mh_in4 (i := 81) (by decide +kernel) rfl
theorem tw_4_82 : (Jvm.Cond.selects "MilkHills$Churn" ({ cls := "MilkHills$Churn", name := "standsSweet", desc := "()Z" } : Jvm.MethodName) ({ cls := "MilkHills$Churn", name := "standsSweet", desc := "()Z" } : Jvm.MethodName)) ∈ mh_WT := mh_in4 (i := 82) (by decide +kernel) rfl
theorem tw_4_83 : (Jvm.Cond.code ({ cls := "MilkHills$Churn", name := "standsSweet", desc := "()Z" } : Jvm.MethodName) prog_2_method_6_code (1 : Nat) (Option.some Jvm.ClassFile.FieldType.boolean)) ∈ mh_WT := mh_in4 (i := 83) (by decide +kernel) rfl
theorem tw_4_84 : (Jvm.Cond.methodLink "MilkHills$Churn" (50 : Nat) ({ cls := "MilkHills$Churn", name := "stands", desc := "()Z" } : Jvm.MethodName)) ∈ mh_WT := mh_in4 (i := 84) (by decide +kernel) rfl
theorem tw_4_85 : (Jvm.Cond.methodLink "MilkHills" (227 : Nat) ({ cls := "MilkHills$Relays", name := "prepare", desc := "(LMilkHills$World;LMilkHills$Churn;I)V" } : Jvm.MethodName)) ∈ mh_WT := mh_in4 (i := 85) (by decide +kernel) rfl
theorem tw_4_86 : (Jvm.Cond.instanceMethod ({ cls := "MilkHills$Relays", name := "prepare", desc := "(LMilkHills$World;LMilkHills$Churn;I)V" } : Jvm.MethodName)) ∈ mh_WT := mh_in4 (i := 86) (by decide +kernel) rfl
theorem tw_4_87 : (Jvm.Cond.selects "MilkHills$Relays" ({ cls := "MilkHills$Relays", name := "prepare", desc := "(LMilkHills$World;LMilkHills$Churn;I)V" } : Jvm.MethodName) ({ cls := "MilkHills$Relays", name := "prepare", desc := "(LMilkHills$World;LMilkHills$Churn;I)V" } : Jvm.MethodName)) ∈ mh_WT := mh_in4 (i := 87) (by decide +kernel) rfl
theorem tw_4_88 : (Jvm.Cond.code ({ cls := "MilkHills$Relays", name := "prepare", desc := "(LMilkHills$World;LMilkHills$Churn;I)V" } : Jvm.MethodName) prog_8_method_2_code (5 : Nat) (Option.none : Option Jvm.ClassFile.FieldType)) ∈ mh_WT := mh_in4 (i := 88) (by decide +kernel) rfl
theorem tw_4_89 : (Jvm.Cond.methodLink "MilkHills$Relays" (29 : Nat) ({ cls := "java/lang/Math", name := "min", desc := "(II)I" } : Jvm.MethodName)) ∈ mh_WT := mh_in4 (i := 89) (by decide +kernel) rfl
theorem tw_4_90 : (Jvm.Cond.methodLink "MilkHills$Relays" (35 : Nat) ({ cls := "java/lang/Math", name := "max", desc := "(II)I" } : Jvm.MethodName)) ∈ mh_WT := mh_in4 (i := 90) (by decide +kernel) rfl
theorem tw_4_91 : (Jvm.Cond.methodLink "MilkHills$Relays" (65 : Nat) ({ cls := "MilkHills$Kind", name := "turns", desc := "(I)I" } : Jvm.MethodName)) ∈ mh_WT := mh_in4 (i := 91) (by decide +kernel) rfl
theorem tw_4_92 : (Jvm.Cond.methodLink "MilkHills$Relays" (82 : Nat) ({ cls := "MilkHills$Kind", name := "jolts", desc := "(II)I" } : Jvm.MethodName)) ∈ mh_WT := mh_in4 (i := 92) (by decide +kernel) rfl
theorem tw_4_93 : (Jvm.Cond.methodLink "MilkHills$Relays" (90 : Nat) ({ cls := "MilkHills$Relays", name := "sumUp", desc := "(LMilkHills$World;LMilkHills$Churn;II)V" } : Jvm.MethodName)) ∈ mh_WT := mh_in4 (i := 93) (by decide +kernel) rfl
theorem tw_4_95 : (Jvm.Cond.instanceMethod ({ cls := "MilkHills$Relays", name := "sumUp", desc := "(LMilkHills$World;LMilkHills$Churn;II)V" } : Jvm.MethodName)) ∈ mh_WT := mh_in4 (i := 95) (by decide +kernel) rfl
theorem tw_4_96 : (Jvm.Cond.code ({ cls := "MilkHills$Relays", name := "sumUp", desc := "(LMilkHills$World;LMilkHills$Churn;II)V" } : Jvm.MethodName) prog_8_method_10_code (8 : Nat) (Option.none : Option Jvm.ClassFile.FieldType)) ∈ mh_WT := mh_in4 (i := 96) (by decide +kernel) rfl
theorem tw_4_97 : (Jvm.Cond.methodLink "MilkHills$Relays" (131 : Nat) ({ cls := "MilkHills$Text", name := "value", desc := "(III)I" } : Jvm.MethodName)) ∈ mh_WT := mh_in4 (i := 97) (by decide +kernel) rfl
theorem tw_4_98 : (Jvm.Cond.methodLink "MilkHills$Relays" (136 : Nat) ({ cls := "MilkHills$Kind", name := "warms", desc := "(II)I" } : Jvm.MethodName)) ∈ mh_WT := mh_in4 (i := 98) (by decide +kernel) rfl
theorem tw_4_99 : (Jvm.Cond.methodLink "MilkHills$Relays" (94 : Nat) ({ cls := "MilkHills$Relays", name := "forget", desc := "(I)V" } : Jvm.MethodName)) ∈ mh_WT := mh_in4 (i := 99) (by decide +kernel) rfl
theorem tw_4_101 : (Jvm.Cond.instanceMethod ({ cls := "MilkHills$Relays", name := "forget", desc := "(I)V" } : Jvm.MethodName)) ∈ mh_WT := mh_in4 (i := 101) (by decide +kernel) rfl
theorem tw_4_102 : (Jvm.Cond.code ({ cls := "MilkHills$Relays", name := "forget", desc := "(I)V" } : Jvm.MethodName) prog_8_method_11_code (2 : Nat) (Option.none : Option Jvm.ClassFile.FieldType)) ∈ mh_WT := mh_in4 (i := 102) (by decide +kernel) rfl
theorem tw_4_103 : (Jvm.Cond.methodLink "MilkHills$Relays" (139 : Nat) ({ cls := "java/util/Arrays", name := "fill", desc := "([IIII)V" } : Jvm.MethodName)) ∈ mh_WT := mh_in4 (i := 103) (by decide +kernel) rfl
theorem tw_4_104 : (Jvm.Cond.static ({ cls := "java/util/Arrays", name := "fill", desc := "([IIII)V" } : Jvm.MethodName)) ∈ mh_WT := mh_in4 (i := 104) (by decide +kernel) rfl
theorem tw_4_105 : (Jvm.Cond.code ({ cls := "java/util/Arrays", name := "fill", desc := "([IIII)V" } : Jvm.MethodName) prog_21_method_104_code (5 : Nat) (Option.none : Option Jvm.ClassFile.FieldType)) ∈ mh_WT := mh_in4 (i := 105) (by decide +kernel) rfl
theorem tw_4_106 : (Jvm.Cond.methodLink "java/util/Arrays" (13 : Nat) ({ cls := "java/util/Arrays", name := "rangeCheck", desc := "(III)V" } : Jvm.MethodName)) ∈ mh_WT := mh_in4 (i := 106) (by decide +kernel) rfl
theorem tw_4_107 : (Jvm.Cond.static ({ cls := "java/util/Arrays", name := "rangeCheck", desc := "(III)V" } : Jvm.MethodName)) ∈ mh_WT := mh_in4 (i := 107) (by decide +kernel) rfl
theorem tw_4_108 : (Jvm.Cond.code ({ cls := "java/util/Arrays", name := "rangeCheck", desc := "(III)V" } : Jvm.MethodName) prog_21_method_30_code (3 : Nat) (Option.none : Option Jvm.ClassFile.FieldType)) ∈ mh_WT := mh_in4 (i := 108) (by decide +kernel) rfl
theorem tw_4_109 : (Jvm.Cond.methodLink "MilkHills" (231 : Nat) ({ cls := "MilkHills$Relays", name := "sourInTown", desc := "()I" } : Jvm.MethodName)) ∈ mh_WT := mh_in4 (i := 109) (by decide +kernel) rfl
theorem tw_4_110 : (Jvm.Cond.instanceMethod ({ cls := "MilkHills$Relays", name := "sourInTown", desc := "()I" } : Jvm.MethodName)) ∈ mh_WT := mh_in4 (i := 110) (by decide +kernel) rfl
theorem tw_4_111 : (Jvm.Cond.selects "MilkHills$Relays" ({ cls := "MilkHills$Relays", name := "sourInTown", desc := "()I" } : Jvm.MethodName) ({ cls := "MilkHills$Relays", name := "sourInTown", desc := "()I" } : Jvm.MethodName)) ∈ mh_WT := mh_in4 (i := 111) (by decide +kernel) rfl
theorem tw_4_112 : (Jvm.Cond.code ({ cls := "MilkHills$Relays", name := "sourInTown", desc := "()I" } : Jvm.MethodName) prog_8_method_3_code (2 : Nat) (Option.some Jvm.ClassFile.FieldType.int)) ∈ mh_WT := mh_in4 (i := 112) (by decide +kernel) rfl
theorem tw_4_113 : (Jvm.Cond.methodLink "MilkHills$Relays" (98 : Nat) ({ cls := "MilkHills$Relays", name := "least", desc := "(III)I" } : Jvm.MethodName)) ∈ mh_WT := mh_in4 (i := 113) (by decide +kernel) rfl
theorem tw_4_115 : (Jvm.Cond.instanceMethod ({ cls := "MilkHills$Relays", name := "least", desc := "(III)I" } : Jvm.MethodName)) ∈ mh_WT := mh_in4 (i := 115) (by decide +kernel) rfl
theorem tw_4_116 : (Jvm.Cond.code ({ cls := "MilkHills$Relays", name := "least", desc := "(III)I" } : Jvm.MethodName) prog_8_method_8_code (15 : Nat) (Option.some Jvm.ClassFile.FieldType.int)) ∈ mh_WT := mh_in4 (i := 116) (by decide +kernel) rfl
theorem tw_4_117 : (Jvm.Cond.methodLink "MilkHills$Relays" (117 : Nat) ({ cls := "MilkHills$Relays", name := "placeOf", desc := "(III)I" } : Jvm.MethodName)) ∈ mh_WT := mh_in4 (i := 117) (by decide +kernel) rfl
theorem tw_4_118 : (Jvm.Cond.static ({ cls := "MilkHills$Relays", name := "placeOf", desc := "(III)I" } : Jvm.MethodName)) ∈ mh_WT := mh_in4 (i := 118) (by decide +kernel) rfl
theorem tw_4_119 : (Jvm.Cond.code ({ cls := "MilkHills$Relays", name := "placeOf", desc := "(III)I" } : Jvm.MethodName) prog_8_method_7_code (3 : Nat) (Option.some Jvm.ClassFile.FieldType.int)) ∈ mh_WT := mh_in4 (i := 119) (by decide +kernel) rfl
theorem tw_4_121 : (Jvm.Cond.constant "MilkHills$Relays" (120 : Nat) (1000000 : Int32)) ∈ mh_WT := mh_in4 (i := 121) (by decide +kernel) rfl
theorem tw_4_122 : (Jvm.Cond.methodLink "MilkHills$Relays" (121 : Nat) ({ cls := "MilkHills$Relays", name := "between", desc := "(III)I" } : Jvm.MethodName)) ∈ mh_WT := mh_in4 (i := 122) (by decide +kernel) rfl
theorem tw_4_124 : (Jvm.Cond.instanceMethod ({ cls := "MilkHills$Relays", name := "between", desc := "(III)I" } : Jvm.MethodName)) ∈ mh_WT := mh_in4 (i := 124) (by decide +kernel) rfl
theorem tw_4_125 : (Jvm.Cond.code ({ cls := "MilkHills$Relays", name := "between", desc := "(III)I" } : Jvm.MethodName) prog_8_method_9_code (4 : Nat) (Option.some Jvm.ClassFile.FieldType.int)) ∈ mh_WT := mh_in4 (i := 125) (by decide +kernel) rfl
theorem tw_4_126 : (Jvm.Cond.methodLink "MilkHills" (234 : Nat) ({ cls := "MilkHills$Relays", name := "choiceAt", desc := "(I)I" } : Jvm.MethodName)) ∈ mh_WT := mh_in4 (i := 126) (by decide +kernel) rfl
theorem tw_4_127 : (Jvm.Cond.instanceMethod ({ cls := "MilkHills$Relays", name := "choiceAt", desc := "(I)I" } : Jvm.MethodName)) ∈ mh_WT := mh_in4 (i := 127) (by decide +kernel) rfl
theorem tw_4_128 : (Jvm.Cond.selects "MilkHills$Relays" ({ cls := "MilkHills$Relays", name := "choiceAt", desc := "(I)I" } : Jvm.MethodName) ({ cls := "MilkHills$Relays", name := "choiceAt", desc := "(I)I" } : Jvm.MethodName)) ∈ mh_WT := mh_in4 (i := 128) (by decide +kernel) rfl
theorem tw_4_129 : (Jvm.Cond.code ({ cls := "MilkHills$Relays", name := "choiceAt", desc := "(I)I" } : Jvm.MethodName) prog_8_method_5_code (7 : Nat) (Option.some Jvm.ClassFile.FieldType.int)) ∈ mh_WT := mh_in4 (i := 129) (by decide +kernel) rfl
theorem tw_4_130 : (Jvm.Cond.methodLink "MilkHills$Relays" (110 : Nat) ({ cls := "MilkHills$Relays", name := "firstChoice", desc := "(III)I" } : Jvm.MethodName)) ∈ mh_WT := mh_in4 (i := 130) (by decide +kernel) rfl
theorem tw_4_132 : (Jvm.Cond.instanceMethod ({ cls := "MilkHills$Relays", name := "firstChoice", desc := "(III)I" } : Jvm.MethodName)) ∈ mh_WT := mh_in4 (i := 132) (by decide +kernel) rfl
theorem tw_4_133 : (Jvm.Cond.code ({ cls := "MilkHills$Relays", name := "firstChoice", desc := "(III)I" } : Jvm.MethodName) prog_8_method_6_code (5 : Nat) (Option.some Jvm.ClassFile.FieldType.int)) ∈ mh_WT := mh_in4 (i := 133) (by decide +kernel) rfl
theorem tw_4_135 : (Jvm.Cond.methodLink "MilkHillsLaw" (101 : Nat) ({ cls := "MilkHills", name := "turnsAt", desc := "(II)I" } : Jvm.MethodName)) ∈ mh_WT := mh_in4 (i := 135) (by decide +kernel) rfl
theorem tw_4_136 : (Jvm.Cond.instanceMethod ({ cls := "MilkHills", name := "turnsAt", desc := "(II)I" } : Jvm.MethodName)) ∈ mh_WT := mh_in4 (i := 136) (by decide +kernel) rfl
theorem tw_4_137 : (Jvm.Cond.selects "MilkHills" ({ cls := "MilkHills", name := "turnsAt", desc := "(II)I" } : Jvm.MethodName) ({ cls := "MilkHills", name := "turnsAt", desc := "(II)I" } : Jvm.MethodName)) ∈ mh_WT := mh_in4 (i := 137) (by decide +kernel) rfl
theorem tw_4_138 : (Jvm.Cond.code ({ cls := "MilkHills", name := "turnsAt", desc := "(II)I" } : Jvm.MethodName) prog_1_method_22_code (4 : Nat) (Option.some Jvm.ClassFile.FieldType.int)) ∈ mh_WT := mh_in4 (i := 138) (by decide +kernel) rfl
theorem tw_4_139 : (Jvm.Cond.methodLink "MilkHills" (237 : Nat) ({ cls := "MilkHills", name := "whereItTurns", desc := "(LMilkHills$Churn;I)I" } : Jvm.MethodName)) ∈ mh_WT := mh_in4 (i := 139) (by decide +kernel) rfl
theorem tw_4_141 : (Jvm.Cond.instanceMethod ({ cls := "MilkHills", name := "whereItTurns", desc := "(LMilkHills$Churn;I)I" } : Jvm.MethodName)) ∈ mh_WT := mh_in4 (i := 141) (by decide +kernel) rfl
theorem tw_4_142 : (Jvm.Cond.code ({ cls := "MilkHills", name := "whereItTurns", desc := "(LMilkHills$Churn;I)I" } : Jvm.MethodName) prog_1_method_48_code (7 : Nat) (Option.some Jvm.ClassFile.FieldType.int)) ∈ mh_WT := mh_in4 (i := 142) (by decide +kernel) rfl
theorem tw_4_143 : (Jvm.Cond.methodLink "MilkHills" (297 : Nat) ({ cls := "MilkHills$Churn", name := "state", desc := "()I" } : Jvm.MethodName)) ∈ mh_WT := mh_in4 (i := 143) (by decide +kernel) rfl
theorem tw_4_144 : (Jvm.Cond.methodLink "MilkHillsLaw" (105 : Nat) ({ cls := "MilkHills", name := "bestGiven", desc := "(III)I" } : Jvm.MethodName)) ∈ mh_WT := mh_in4 (i := 144) (by decide +kernel) rfl
theorem tw_4_145 : (Jvm.Cond.instanceMethod ({ cls := "MilkHills", name := "bestGiven", desc := "(III)I" } : Jvm.MethodName)) ∈ mh_WT := mh_in4 (i := 145) (by decide +kernel) rfl
theorem tw_4_146 : (Jvm.Cond.selects "MilkHills" ({ cls := "MilkHills", name := "bestGiven", desc := "(III)I" } : Jvm.MethodName) ({ cls := "MilkHills", name := "bestGiven", desc := "(III)I" } : Jvm.MethodName)) ∈ mh_WT := mh_in4 (i := 146) (by decide +kernel) rfl
theorem tw_4_147 : (Jvm.Cond.code ({ cls := "MilkHills", name := "bestGiven", desc := "(III)I" } : Jvm.MethodName) prog_1_method_23_code (10 : Nat) (Option.some Jvm.ClassFile.FieldType.int)) ∈ mh_WT := mh_in4 (i := 147) (by decide +kernel) rfl
theorem tw_4_148 : (Jvm.Cond.methodLink "MilkHills" (241 : Nat) ({ cls := "MilkHills$World", name := "ride", desc := "(LMilkHills$Churn;II)I" } : Jvm.MethodName)) ∈ mh_WT := mh_in4 (i := 148) (by decide +kernel) rfl
theorem tw_4_149 : (Jvm.Cond.instanceMethod ({ cls := "MilkHills$World", name := "ride", desc := "(LMilkHills$Churn;II)I" } : Jvm.MethodName)) ∈ mh_WT := mh_in4 (i := 149) (by decide +kernel) rfl
theorem tw_4_150 : (Jvm.Cond.selects "MilkHills$World" ({ cls := "MilkHills$World", name := "ride", desc := "(LMilkHills$Churn;II)I" } : Jvm.MethodName) ({ cls := "MilkHills$World", name := "ride", desc := "(LMilkHills$Churn;II)I" } : Jvm.MethodName)) ∈ mh_WT := mh_in4 (i := 150) (by decide +kernel) rfl
theorem tw_4_151 : (Jvm.Cond.code ({ cls := "MilkHills$World", name := "ride", desc := "(LMilkHills$Churn;II)I" } : Jvm.MethodName) prog_12_method_17_code (6 : Nat) (Option.some Jvm.ClassFile.FieldType.int)) ∈ mh_WT := mh_in4 (i := 151) (by decide +kernel) rfl
theorem tw_4_152 : (Jvm.Cond.methodLink "MilkHills$World" (184 : Nat) ({ cls := "MilkHills$World", name := "setOff", desc := "(LMilkHills$Churn;I)V" } : Jvm.MethodName)) ∈ mh_WT := mh_in4 (i := 152) (by decide +kernel) rfl
theorem tw_4_153 : (Jvm.Cond.methodLink "MilkHills" (245 : Nat) ({ cls := "MilkHills$World", name := "worth", desc := "(LMilkHills$Churn;)I" } : Jvm.MethodName)) ∈ mh_WT := mh_in4 (i := 153) (by decide +kernel) rfl
theorem tw_4_154 : (Jvm.Cond.methodLink "MilkHillsLaw" (109 : Nat) ({ cls := "MilkHills", name := "cellar", desc := "(III)I" } : Jvm.MethodName)) ∈ mh_WT := mh_in4 (i := 154) (by decide +kernel) rfl
theorem tw_4_155 : (Jvm.Cond.instanceMethod ({ cls := "MilkHills", name := "cellar", desc := "(III)I" } : Jvm.MethodName)) ∈ mh_WT := mh_in4 (i := 155) (by decide +kernel) rfl
theorem tw_4_156 : (Jvm.Cond.selects "MilkHills" ({ cls := "MilkHills", name := "cellar", desc := "(III)I" } : Jvm.MethodName) ({ cls := "MilkHills", name := "cellar", desc := "(III)I" } : Jvm.MethodName)) ∈ mh_WT := mh_in4 (i := 156) (by decide +kernel) rfl
theorem tw_4_157 : (Jvm.Cond.code ({ cls := "MilkHills", name := "cellar", desc := "(III)I" } : Jvm.MethodName) prog_1_method_24_code (9 : Nat) (Option.some Jvm.ClassFile.FieldType.int)) ∈ mh_WT := mh_in4 (i := 157) (by decide +kernel) rfl
theorem tw_4_158 : (Jvm.Cond.methodLink "MilkHills" (248 : Nat) ({ cls := "MilkHills$Relays", name := "sourWithCellar", desc := "(LMilkHills$World;LMilkHills$Churn;I)I" } : Jvm.MethodName)) ∈ mh_WT := mh_in4 (i := 158) (by decide +kernel) rfl
theorem tw_4_159 : (Jvm.Cond.instanceMethod ({ cls := "MilkHills$Relays", name := "sourWithCellar", desc := "(LMilkHills$World;LMilkHills$Churn;I)I" } : Jvm.MethodName)) ∈ mh_WT := mh_in4 (i := 159) (by decide +kernel) rfl
theorem tw_4_160 : (Jvm.Cond.selects "MilkHills$Relays" ({ cls := "MilkHills$Relays", name := "sourWithCellar", desc := "(LMilkHills$World;LMilkHills$Churn;I)I" } : Jvm.MethodName) ({ cls := "MilkHills$Relays", name := "sourWithCellar", desc := "(LMilkHills$World;LMilkHills$Churn;I)I" } : Jvm.MethodName)) ∈ mh_WT := mh_in4 (i := 160) (by decide +kernel) rfl
theorem tw_4_161 : (Jvm.Cond.code ({ cls := "MilkHills$Relays", name := "sourWithCellar", desc := "(LMilkHills$World;LMilkHills$Churn;I)I" } : Jvm.MethodName) prog_8_method_4_code (5 : Nat) (Option.some Jvm.ClassFile.FieldType.int)) ∈ mh_WT := mh_in4 (i := 161) (by decide +kernel) rfl
theorem tw_4_162 : (Jvm.Cond.methodLink "MilkHills$Relays" (106 : Nat) ({ cls := "MilkHills$Relays", name := "sourInTown", desc := "()I" } : Jvm.MethodName)) ∈ mh_WT := mh_in4 (i := 162) (by decide +kernel) rfl
theorem tw_4_163 : (Jvm.Cond.methodLink "MilkHillsLaw" (113 : Nat) ({ cls := "MilkHills", name := "odds", desc := "(III)J" } : Jvm.MethodName)) ∈ mh_WT := mh_in4 (i := 163) (by decide +kernel) rfl
theorem tw_4_164 : (Jvm.Cond.instanceMethod ({ cls := "MilkHills", name := "odds", desc := "(III)J" } : Jvm.MethodName)) ∈ mh_WT := mh_in4 (i := 164) (by decide +kernel) rfl
theorem tw_4_165 : (Jvm.Cond.selects "MilkHills" ({ cls := "MilkHills", name := "odds", desc := "(III)J" } : Jvm.MethodName) ({ cls := "MilkHills", name := "odds", desc := "(III)J" } : Jvm.MethodName)) ∈ mh_WT := mh_in4 (i := 165) (by decide +kernel) rfl
theorem tw_4_166 : (Jvm.Cond.code ({ cls := "MilkHills", name := "odds", desc := "(III)J" } : Jvm.MethodName) prog_1_method_25_code (9 : Nat) (Option.some Jvm.ClassFile.FieldType.long)) ∈ mh_WT := mh_in4 (i := 166) (by decide +kernel) rfl
theorem tw_4_167 : (Jvm.Cond.constantLong "MilkHills" (252 : Nat) (16 : Int64)) ∈ mh_WT := mh_in4 (i := 167) (by decide +kernel) rfl
theorem tw_4_168 : (Jvm.Cond.constantLong "MilkHills" (254 : Nat) (2 : Int64)) ∈ mh_WT := mh_in4 (i := 168) (by decide +kernel) rfl
theorem tw_4_169 : (Jvm.Cond.methodLink "MilkHillsLaw" (118 : Nat) ({ cls := "MilkHills", name := "byWhom", desc := "(III)I" } : Jvm.MethodName)) ∈ mh_WT := mh_in4 (i := 169) (by decide +kernel) rfl
theorem tw_4_170 : (Jvm.Cond.instanceMethod ({ cls := "MilkHills", name := "byWhom", desc := "(III)I" } : Jvm.MethodName)) ∈ mh_WT := mh_in4 (i := 170) (by decide +kernel) rfl
theorem tw_4_171 : (Jvm.Cond.selects "MilkHills" ({ cls := "MilkHills", name := "byWhom", desc := "(III)I" } : Jvm.MethodName) ({ cls := "MilkHills", name := "byWhom", desc := "(III)I" } : Jvm.MethodName)) ∈ mh_WT := mh_in4 (i := 171) (by decide +kernel) rfl
theorem tw_4_172 : (Jvm.Cond.code ({ cls := "MilkHills", name := "byWhom", desc := "(III)I" } : Jvm.MethodName) prog_1_method_26_code (9 : Nat) (Option.some Jvm.ClassFile.FieldType.int)) ∈ mh_WT := mh_in4 (i := 172) (by decide +kernel) rfl
theorem tw_4_173 : (Jvm.Cond.methodLink "MilkHillsLaw" (122 : Nat) ({ cls := "MilkHills", name := "seed", desc := "(I)I" } : Jvm.MethodName)) ∈ mh_WT := mh_in4 (i := 173) (by decide +kernel) rfl
theorem tw_4_174 : (Jvm.Cond.instanceMethod ({ cls := "MilkHills", name := "seed", desc := "(I)I" } : Jvm.MethodName)) ∈ mh_WT := mh_in4 (i := 174) (by decide +kernel) rfl
theorem tw_4_175 : (Jvm.Cond.selects "MilkHills" ({ cls := "MilkHills", name := "seed", desc := "(I)I" } : Jvm.MethodName) ({ cls := "MilkHills", name := "seed", desc := "(I)I" } : Jvm.MethodName)) ∈ mh_WT := mh_in4 (i := 175) (by decide +kernel) rfl
theorem tw_4_176 : (Jvm.Cond.code ({ cls := "MilkHills", name := "seed", desc := "(I)I" } : Jvm.MethodName) prog_1_method_27_code (3 : Nat) (Option.some Jvm.ClassFile.FieldType.int)) ∈ mh_WT := mh_in4 (i := 176) (by decide +kernel) rfl
theorem tw_4_177 : (Jvm.Cond.methodLink "MilkHillsLaw" (126 : Nat) ({ cls := "MilkHills", name := "voice", desc := "(III)I" } : Jvm.MethodName)) ∈ mh_WT := mh_in4 (i := 177) (by decide +kernel) rfl
theorem tw_4_178 : (Jvm.Cond.instanceMethod ({ cls := "MilkHills", name := "voice", desc := "(III)I" } : Jvm.MethodName)) ∈ mh_WT := mh_in4 (i := 178) (by decide +kernel) rfl
theorem tw_4_179 : (Jvm.Cond.selects "MilkHills" ({ cls := "MilkHills", name := "voice", desc := "(III)I" } : Jvm.MethodName) ({ cls := "MilkHills", name := "voice", desc := "(III)I" } : Jvm.MethodName)) ∈ mh_WT := mh_in4 (i := 179) (by decide +kernel) rfl
theorem tw_4_180 : (Jvm.Cond.code ({ cls := "MilkHills", name := "voice", desc := "(III)I" } : Jvm.MethodName) prog_1_method_28_code (5 : Nat) (Option.some Jvm.ClassFile.FieldType.int)) ∈ mh_WT := mh_in4 (i := 180) (by decide +kernel) rfl
theorem tw_4_181 : (Jvm.Cond.methodLink "MilkHills" (262 : Nat) ({ cls := "MilkHills$Kind", name := "fills", desc := "(LMilkHills$Churn;[II)I" } : Jvm.MethodName)) ∈ mh_WT := mh_in4 (i := 181) (by decide +kernel) rfl
theorem tw_4_182 : (Jvm.Cond.instanceMethod ({ cls := "MilkHills$Kind", name := "fills", desc := "(LMilkHills$Churn;[II)I" } : Jvm.MethodName)) ∈ mh_WT := mh_in4 (i := 182) (by decide +kernel) rfl
theorem tw_4_183 : (Jvm.Cond.selects "MilkHills$Kind" ({ cls := "MilkHills$Kind", name := "fills", desc := "(LMilkHills$Churn;[II)I" } : Jvm.MethodName) ({ cls := "MilkHills$Kind", name := "fills", desc := "(LMilkHills$Churn;[II)I" } : Jvm.MethodName)) ∈ mh_WT := mh_in4 (i := 183) (by decide +kernel) rfl
theorem tw_4_184 : (Jvm.Cond.sameMethod "MilkHills$Kind" "MilkHills$Kind" "fills" "(LMilkHills$Churn;[II)I") ∈ mh_WT := mh_in4 (i := 184) (by decide +kernel) rfl
theorem tw_4_185 : (Jvm.Cond.selects "MilkHills$Creamed" ({ cls := "MilkHills$Kind", name := "fills", desc := "(LMilkHills$Churn;[II)I" } : Jvm.MethodName) ({ cls := "MilkHills$Kind", name := "fills", desc := "(LMilkHills$Churn;[II)I" } : Jvm.MethodName)) ∈ mh_WT := mh_in4 (i := 185) (by decide +kernel) rfl
theorem tw_4_186 : (Jvm.Cond.selects "MilkHills$Goats" ({ cls := "MilkHills$Kind", name := "fills", desc := "(LMilkHills$Churn;[II)I" } : Jvm.MethodName) ({ cls := "MilkHills$Kind", name := "fills", desc := "(LMilkHills$Churn;[II)I" } : Jvm.MethodName)) ∈ mh_WT := mh_in4 (i := 186) (by decide +kernel) rfl
theorem tw_4_187 : (Jvm.Cond.selects "MilkHills$Lidded" ({ cls := "MilkHills$Kind", name := "fills", desc := "(LMilkHills$Churn;[II)I" } : Jvm.MethodName) ({ cls := "MilkHills$Lidded", name := "fills", desc := "(LMilkHills$Churn;[II)I" } : Jvm.MethodName)) ∈ mh_WT := mh_in4 (i := 187) (by decide +kernel) rfl
theorem tw_4_188 : (Jvm.Cond.instanceMethod ({ cls := "MilkHills$Lidded", name := "fills", desc := "(LMilkHills$Churn;[II)I" } : Jvm.MethodName)) ∈ mh_WT := mh_in4 (i := 188) (by decide +kernel) rfl
theorem tw_4_189 : (Jvm.Cond.code ({ cls := "MilkHills$Lidded", name := "fills", desc := "(LMilkHills$Churn;[II)I" } : Jvm.MethodName) prog_6_method_3_code (4 : Nat) (Option.some Jvm.ClassFile.FieldType.int)) ∈ mh_WT := mh_in4 (i := 189) (by decide +kernel) rfl
theorem tw_4_190 : (Jvm.Cond.methodLink "MilkHills$Lidded" (11 : Nat) ({ cls := "MilkHills$Lidded", name := "begin", desc := "([II)V" } : Jvm.MethodName)) ∈ mh_WT := mh_in4 (i := 190) (by decide +kernel) rfl
theorem tw_4_191 : (Jvm.Cond.sameMethod "MilkHills$Lidded" "MilkHills$Kind" "begin" "([II)V") ∈ mh_WT := mh_in4 (i := 191) (by decide +kernel) rfl
theorem tw_4_192 : (Jvm.Cond.static ({ cls := "MilkHills$Kind", name := "begin", desc := "([II)V" } : Jvm.MethodName)) ∈ mh_WT := mh_in4 (i := 192) (by decide +kernel) rfl
theorem tw_4_193 : (Jvm.Cond.code ({ cls := "MilkHills$Kind", name := "begin", desc := "([II)V" } : Jvm.MethodName) prog_5_method_10_code (2 : Nat) (Option.none : Option Jvm.ClassFile.FieldType)) ∈ mh_WT := mh_in4 (i := 193) (by decide +kernel) rfl
theorem tw_4_194 : (Jvm.Cond.methodLink "MilkHills$Lidded" (17 : Nat) ({ cls := "MilkHills$Kind", name := "fills", desc := "(LMilkHills$Churn;[II)I" } : Jvm.MethodName)) ∈ mh_WT := mh_in4 (i := 194) (by decide +kernel) rfl
theorem tw_4_195 : (Jvm.Cond.selects "MilkHills$Old" ({ cls := "MilkHills$Kind", name := "fills", desc := "(LMilkHills$Churn;[II)I" } : Jvm.MethodName) ({ cls := "MilkHills$Kind", name := "fills", desc := "(LMilkHills$Churn;[II)I" } : Jvm.MethodName)) ∈ mh_WT := mh_in4 (i := 195) (by decide +kernel) rfl
theorem tw_4_196 : (Jvm.Cond.selects "MilkHills$Running" ({ cls := "MilkHills$Kind", name := "fills", desc := "(LMilkHills$Churn;[II)I" } : Jvm.MethodName) ({ cls := "MilkHills$Kind", name := "fills", desc := "(LMilkHills$Churn;[II)I" } : Jvm.MethodName)) ∈ mh_WT := mh_in4 (i := 196) (by decide +kernel) rfl
theorem tw_4_197 : (Jvm.Cond.selects "MilkHills$Sealed" ({ cls := "MilkHills$Kind", name := "fills", desc := "(LMilkHills$Churn;[II)I" } : Jvm.MethodName) ({ cls := "MilkHills$Lidded", name := "fills", desc := "(LMilkHills$Churn;[II)I" } : Jvm.MethodName)) ∈ mh_WT := mh_in4 (i := 197) (by decide +kernel) rfl
theorem tw_4_198 : (Jvm.Cond.code ({ cls := "MilkHills$Kind", name := "fills", desc := "(LMilkHills$Churn;[II)I" } : Jvm.MethodName) prog_5_method_6_code (4 : Nat) (Option.some Jvm.ClassFile.FieldType.int)) ∈ mh_WT := mh_in4 (i := 198) (by decide +kernel) rfl
theorem tw_4_199 : (Jvm.Cond.methodLink "MilkHills$Kind" (15 : Nat) ({ cls := "MilkHills$Kind", name := "begin", desc := "([II)V" } : Jvm.MethodName)) ∈ mh_WT := mh_in4 (i := 199) (by decide +kernel) rfl
theorem tw_4_200 : (Jvm.Cond.methodLink "MilkHills" (266 : Nat) ({ cls := "MilkHills$Kind", name := "shakes", desc := "(LMilkHills$Churn;[II)I" } : Jvm.MethodName)) ∈ mh_WT := mh_in4 (i := 200) (by decide +kernel) rfl
theorem tw_4_201 : (Jvm.Cond.instanceMethod ({ cls := "MilkHills$Kind", name := "shakes", desc := "(LMilkHills$Churn;[II)I" } : Jvm.MethodName)) ∈ mh_WT := mh_in4 (i := 201) (by decide +kernel) rfl
theorem tw_4_202 : (Jvm.Cond.selects "MilkHills$Kind" ({ cls := "MilkHills$Kind", name := "shakes", desc := "(LMilkHills$Churn;[II)I" } : Jvm.MethodName) ({ cls := "MilkHills$Kind", name := "shakes", desc := "(LMilkHills$Churn;[II)I" } : Jvm.MethodName)) ∈ mh_WT := mh_in4 (i := 202) (by decide +kernel) rfl
theorem tw_4_203 : (Jvm.Cond.sameMethod "MilkHills$Kind" "MilkHills$Kind" "shakes" "(LMilkHills$Churn;[II)I") ∈ mh_WT := mh_in4 (i := 203) (by decide +kernel) rfl
theorem tw_4_204 : (Jvm.Cond.selects "MilkHills$Creamed" ({ cls := "MilkHills$Kind", name := "shakes", desc := "(LMilkHills$Churn;[II)I" } : Jvm.MethodName) ({ cls := "MilkHills$Kind", name := "shakes", desc := "(LMilkHills$Churn;[II)I" } : Jvm.MethodName)) ∈ mh_WT := mh_in4 (i := 204) (by decide +kernel) rfl
theorem tw_4_205 : (Jvm.Cond.selects "MilkHills$Goats" ({ cls := "MilkHills$Kind", name := "shakes", desc := "(LMilkHills$Churn;[II)I" } : Jvm.MethodName) ({ cls := "MilkHills$Goats", name := "shakes", desc := "(LMilkHills$Churn;[II)I" } : Jvm.MethodName)) ∈ mh_WT := mh_in4 (i := 205) (by decide +kernel) rfl
theorem tw_4_206 : (Jvm.Cond.instanceMethod ({ cls := "MilkHills$Goats", name := "shakes", desc := "(LMilkHills$Churn;[II)I" } : Jvm.MethodName)) ∈ mh_WT := mh_in4 (i := 206) (by decide +kernel) rfl
theorem tw_4_207 : (Jvm.Cond.code ({ cls := "MilkHills$Goats", name := "shakes", desc := "(LMilkHills$Churn;[II)I" } : Jvm.MethodName) prog_4_method_4_code (5 : Nat) (Option.some Jvm.ClassFile.FieldType.int)) ∈ mh_WT := mh_in4 (i := 207) (by decide +kernel) rfl
theorem tw_4_208 : (Jvm.Cond.methodLink "MilkHills$Goats" (11 : Nat) ({ cls := "MilkHills$Goats", name := "begin", desc := "([II)V" } : Jvm.MethodName)) ∈ mh_WT := mh_in4 (i := 208) (by decide +kernel) rfl
theorem tw_4_209 : (Jvm.Cond.sameMethod "MilkHills$Goats" "MilkHills$Kind" "begin" "([II)V") ∈ mh_WT := mh_in4 (i := 209) (by decide +kernel) rfl
theorem tw_4_210 : (Jvm.Cond.methodLink "MilkHills$Goats" (17 : Nat) ({ cls := "MilkHills$Kind", name := "shakes", desc := "(LMilkHills$Churn;[II)I" } : Jvm.MethodName)) ∈ mh_WT := mh_in4 (i := 210) (by decide +kernel) rfl
theorem tw_4_211 : (Jvm.Cond.methodLink "MilkHills$Goats" (27 : Nat) ({ cls := "MilkHills$Kind", name := "cools", desc := "(LMilkHills$Churn;[II)I" } : Jvm.MethodName)) ∈ mh_WT := mh_in4 (i := 211) (by decide +kernel) rfl
theorem tw_4_212 : (Jvm.Cond.instanceMethod ({ cls := "MilkHills$Kind", name := "cools", desc := "(LMilkHills$Churn;[II)I" } : Jvm.MethodName)) ∈ mh_WT := mh_in4 (i := 212) (by decide +kernel) rfl
theorem tw_4_213 : (Jvm.Cond.selects "MilkHills$Kind" ({ cls := "MilkHills$Kind", name := "cools", desc := "(LMilkHills$Churn;[II)I" } : Jvm.MethodName) ({ cls := "MilkHills$Kind", name := "cools", desc := "(LMilkHills$Churn;[II)I" } : Jvm.MethodName)) ∈ mh_WT := mh_in4 (i := 213) (by decide +kernel) rfl
theorem tw_4_214 : (Jvm.Cond.sameMethod "MilkHills$Kind" "MilkHills$Kind" "cools" "(LMilkHills$Churn;[II)I") ∈ mh_WT := mh_in4 (i := 214) (by decide +kernel) rfl
theorem tw_4_215 : (Jvm.Cond.selects "MilkHills$Creamed" ({ cls := "MilkHills$Kind", name := "cools", desc := "(LMilkHills$Churn;[II)I" } : Jvm.MethodName) ({ cls := "MilkHills$Creamed", name := "cools", desc := "(LMilkHills$Churn;[II)I" } : Jvm.MethodName)) ∈ mh_WT := mh_in4 (i := 215) (by decide +kernel) rfl
theorem tw_4_216 : (Jvm.Cond.instanceMethod ({ cls := "MilkHills$Creamed", name := "cools", desc := "(LMilkHills$Churn;[II)I" } : Jvm.MethodName)) ∈ mh_WT := mh_in4 (i := 216) (by decide +kernel) rfl
theorem tw_4_217 : (Jvm.Cond.code ({ cls := "MilkHills$Creamed", name := "cools", desc := "(LMilkHills$Churn;[II)I" } : Jvm.MethodName) prog_3_method_3_code (4 : Nat) (Option.some Jvm.ClassFile.FieldType.int)) ∈ mh_WT := mh_in4 (i := 217) (by decide +kernel) rfl
theorem tw_4_218 : (Jvm.Cond.methodLink "MilkHills$Creamed" (7 : Nat) ({ cls := "MilkHills$Creamed", name := "begin", desc := "([II)V" } : Jvm.MethodName)) ∈ mh_WT := mh_in4 (i := 218) (by decide +kernel) rfl
theorem tw_4_219 : (Jvm.Cond.sameMethod "MilkHills$Creamed" "MilkHills$Kind" "begin" "([II)V") ∈ mh_WT := mh_in4 (i := 219) (by decide +kernel) rfl
theorem tw_4_220 : (Jvm.Cond.methodLink "MilkHills$Creamed" (13 : Nat) ({ cls := "MilkHills$Kind", name := "cools", desc := "(LMilkHills$Churn;[II)I" } : Jvm.MethodName)) ∈ mh_WT := mh_in4 (i := 220) (by decide +kernel) rfl
theorem tw_4_221 : (Jvm.Cond.selects "MilkHills$Goats" ({ cls := "MilkHills$Kind", name := "cools", desc := "(LMilkHills$Churn;[II)I" } : Jvm.MethodName) ({ cls := "MilkHills$Kind", name := "cools", desc := "(LMilkHills$Churn;[II)I" } : Jvm.MethodName)) ∈ mh_WT := mh_in4 (i := 221) (by decide +kernel) rfl
theorem tw_4_222 : (Jvm.Cond.selects "MilkHills$Lidded" ({ cls := "MilkHills$Kind", name := "cools", desc := "(LMilkHills$Churn;[II)I" } : Jvm.MethodName) ({ cls := "MilkHills$Kind", name := "cools", desc := "(LMilkHills$Churn;[II)I" } : Jvm.MethodName)) ∈ mh_WT := mh_in4 (i := 222) (by decide +kernel) rfl
theorem tw_4_223 : (Jvm.Cond.selects "MilkHills$Old" ({ cls := "MilkHills$Kind", name := "cools", desc := "(LMilkHills$Churn;[II)I" } : Jvm.MethodName) ({ cls := "MilkHills$Old", name := "cools", desc := "(LMilkHills$Churn;[II)I" } : Jvm.MethodName)) ∈ mh_WT := mh_in4 (i := 223) (by decide +kernel) rfl
theorem tw_4_224 : (Jvm.Cond.instanceMethod ({ cls := "MilkHills$Old", name := "cools", desc := "(LMilkHills$Churn;[II)I" } : Jvm.MethodName)) ∈ mh_WT := mh_in4 (i := 224) (by decide +kernel) rfl
theorem tw_4_225 : (Jvm.Cond.code ({ cls := "MilkHills$Old", name := "cools", desc := "(LMilkHills$Churn;[II)I" } : Jvm.MethodName) prog_7_method_4_code (4 : Nat) (Option.some Jvm.ClassFile.FieldType.int)) ∈ mh_WT := mh_in4 (i := 225) (by decide +kernel) rfl
theorem tw_4_226 : (Jvm.Cond.methodLink "MilkHills$Old" (14 : Nat) ({ cls := "MilkHills$Old", name := "begin", desc := "([II)V" } : Jvm.MethodName)) ∈ mh_WT := mh_in4 (i := 226) (by decide +kernel) rfl
theorem tw_4_227 : (Jvm.Cond.sameMethod "MilkHills$Old" "MilkHills$Kind" "begin" "([II)V") ∈ mh_WT := mh_in4 (i := 227) (by decide +kernel) rfl
theorem tw_4_228 : (Jvm.Cond.methodLink "MilkHills$Old" (20 : Nat) ({ cls := "MilkHills$Creamed", name := "cools", desc := "(LMilkHills$Churn;[II)I" } : Jvm.MethodName)) ∈ mh_WT := mh_in4 (i := 228) (by decide +kernel) rfl
theorem tw_4_229 : (Jvm.Cond.selects "MilkHills$Running" ({ cls := "MilkHills$Kind", name := "cools", desc := "(LMilkHills$Churn;[II)I" } : Jvm.MethodName) ({ cls := "MilkHills$Kind", name := "cools", desc := "(LMilkHills$Churn;[II)I" } : Jvm.MethodName)) ∈ mh_WT := mh_in4 (i := 229) (by decide +kernel) rfl
theorem tw_4_230 : (Jvm.Cond.selects "MilkHills$Sealed" ({ cls := "MilkHills$Kind", name := "cools", desc := "(LMilkHills$Churn;[II)I" } : Jvm.MethodName) ({ cls := "MilkHills$Kind", name := "cools", desc := "(LMilkHills$Churn;[II)I" } : Jvm.MethodName)) ∈ mh_WT := mh_in4 (i := 230) (by decide +kernel) rfl
theorem tw_4_231 : (Jvm.Cond.code ({ cls := "MilkHills$Kind", name := "cools", desc := "(LMilkHills$Churn;[II)I" } : Jvm.MethodName) prog_5_method_8_code (4 : Nat) (Option.some Jvm.ClassFile.FieldType.int)) ∈ mh_WT := mh_in4 (i := 231) (by decide +kernel) rfl
theorem tw_4_232 : (Jvm.Cond.selects "MilkHills$Lidded" ({ cls := "MilkHills$Kind", name := "shakes", desc := "(LMilkHills$Churn;[II)I" } : Jvm.MethodName) ({ cls := "MilkHills$Kind", name := "shakes", desc := "(LMilkHills$Churn;[II)I" } : Jvm.MethodName)) ∈ mh_WT := mh_in4 (i := 232) (by decide +kernel) rfl
theorem tw_4_233 : (Jvm.Cond.selects "MilkHills$Old" ({ cls := "MilkHills$Kind", name := "shakes", desc := "(LMilkHills$Churn;[II)I" } : Jvm.MethodName) ({ cls := "MilkHills$Kind", name := "shakes", desc := "(LMilkHills$Churn;[II)I" } : Jvm.MethodName)) ∈ mh_WT := mh_in4 (i := 233) (by decide +kernel) rfl
theorem tw_4_234 : (Jvm.Cond.selects "MilkHills$Running" ({ cls := "MilkHills$Kind", name := "shakes", desc := "(LMilkHills$Churn;[II)I" } : Jvm.MethodName) ({ cls := "MilkHills$Running", name := "shakes", desc := "(LMilkHills$Churn;[II)I" } : Jvm.MethodName)) ∈ mh_WT := mh_in4 (i := 234) (by decide +kernel) rfl
theorem tw_4_235 : (Jvm.Cond.instanceMethod ({ cls := "MilkHills$Running", name := "shakes", desc := "(LMilkHills$Churn;[II)I" } : Jvm.MethodName)) ∈ mh_WT := mh_in4 (i := 235) (by decide +kernel) rfl
theorem tw_4_236 : (Jvm.Cond.code ({ cls := "MilkHills$Running", name := "shakes", desc := "(LMilkHills$Churn;[II)I" } : Jvm.MethodName) prog_9_method_4_code (4 : Nat) (Option.some Jvm.ClassFile.FieldType.int)) ∈ mh_WT := mh_in4 (i := 236) (by decide +kernel) rfl
theorem tw_4_237 : (Jvm.Cond.methodLink "MilkHills$Running" (20 : Nat) ({ cls := "MilkHills$Running", name := "begin", desc := "([II)V" } : Jvm.MethodName)) ∈ mh_WT := mh_in4 (i := 237) (by decide +kernel) rfl
theorem tw_4_238 : (Jvm.Cond.sameMethod "MilkHills$Running" "MilkHills$Kind" "begin" "([II)V") ∈ mh_WT := mh_in4 (i := 238) (by decide +kernel) rfl
theorem tw_4_239 : (Jvm.Cond.methodLink "MilkHills$Running" (26 : Nat) ({ cls := "MilkHills$Goats", name := "shakes", desc := "(LMilkHills$Churn;[II)I" } : Jvm.MethodName)) ∈ mh_WT := mh_in4 (i := 239) (by decide +kernel) rfl
theorem tw_5_0 : (Jvm.Cond.selects "MilkHills$Sealed" ({ cls := "MilkHills$Kind", name := "shakes", desc := "(LMilkHills$Churn;[II)I" } : Jvm.MethodName) ({ cls := "MilkHills$Kind", name := "shakes", desc := "(LMilkHills$Churn;[II)I" } : Jvm.MethodName)) ∈ mh_WT := mh_in5 (i := 0) (by decide +kernel) rfl
theorem tw_5_1 : (Jvm.Cond.code ({ cls := "MilkHills$Kind", name := "shakes", desc := "(LMilkHills$Churn;[II)I" } : Jvm.MethodName) prog_5_method_7_code (4 : Nat) (Option.some Jvm.ClassFile.FieldType.int)) ∈ mh_WT := mh_in5 (i := 1) (by decide +kernel) rfl
theorem tw_5_2 : (Jvm.Cond.methodLink "MilkHills$Kind" (26 : Nat) ({ cls := "MilkHills$Kind", name := "fills", desc := "(LMilkHills$Churn;[II)I" } : Jvm.MethodName)) ∈ mh_WT := mh_in5 (i := 2) (by decide +kernel) rfl
theorem tw_5_3 : (Jvm.Cond.methodLink "MilkHills" (268 : Nat) ({ cls := "MilkHills$Kind", name := "cools", desc := "(LMilkHills$Churn;[II)I" } : Jvm.MethodName)) ∈ mh_WT := mh_in5 (i := 3) (by decide +kernel) rfl
theorem tw_5_4 : (Jvm.Cond.methodLink "MilkHills" (271 : Nat) ({ cls := "MilkHills$Kind", name := "tells", desc := "(LMilkHills$Churn;[II)I" } : Jvm.MethodName)) ∈ mh_WT := mh_in5 (i := 4) (by decide +kernel) rfl
theorem tw_5_5 : (Jvm.Cond.instanceMethod ({ cls := "MilkHills$Kind", name := "tells", desc := "(LMilkHills$Churn;[II)I" } : Jvm.MethodName)) ∈ mh_WT := mh_in5 (i := 5) (by decide +kernel) rfl
theorem tw_5_6 : (Jvm.Cond.selects "MilkHills$Kind" ({ cls := "MilkHills$Kind", name := "tells", desc := "(LMilkHills$Churn;[II)I" } : Jvm.MethodName) ({ cls := "MilkHills$Kind", name := "tells", desc := "(LMilkHills$Churn;[II)I" } : Jvm.MethodName)) ∈ mh_WT := mh_in5 (i := 6) (by decide +kernel) rfl
theorem tw_5_7 : (Jvm.Cond.sameMethod "MilkHills$Kind" "MilkHills$Kind" "tells" "(LMilkHills$Churn;[II)I") ∈ mh_WT := mh_in5 (i := 7) (by decide +kernel) rfl
theorem tw_5_8 : (Jvm.Cond.selects "MilkHills$Creamed" ({ cls := "MilkHills$Kind", name := "tells", desc := "(LMilkHills$Churn;[II)I" } : Jvm.MethodName) ({ cls := "MilkHills$Kind", name := "tells", desc := "(LMilkHills$Churn;[II)I" } : Jvm.MethodName)) ∈ mh_WT := mh_in5 (i := 8) (by decide +kernel) rfl
theorem tw_5_9 : (Jvm.Cond.selects "MilkHills$Goats" ({ cls := "MilkHills$Kind", name := "tells", desc := "(LMilkHills$Churn;[II)I" } : Jvm.MethodName) ({ cls := "MilkHills$Kind", name := "tells", desc := "(LMilkHills$Churn;[II)I" } : Jvm.MethodName)) ∈ mh_WT := mh_in5 (i := 9) (by decide +kernel) rfl
theorem tw_5_10 : (Jvm.Cond.selects "MilkHills$Lidded" ({ cls := "MilkHills$Kind", name := "tells", desc := "(LMilkHills$Churn;[II)I" } : Jvm.MethodName) ({ cls := "MilkHills$Kind", name := "tells", desc := "(LMilkHills$Churn;[II)I" } : Jvm.MethodName)) ∈ mh_WT := mh_in5 (i := 10) (by decide +kernel) rfl
theorem tw_5_11 : (Jvm.Cond.selects "MilkHills$Old" ({ cls := "MilkHills$Kind", name := "tells", desc := "(LMilkHills$Churn;[II)I" } : Jvm.MethodName) ({ cls := "MilkHills$Old", name := "tells", desc := "(LMilkHills$Churn;[II)I" } : Jvm.MethodName)) ∈ mh_WT := mh_in5 (i := 11) (by decide +kernel) rfl
theorem tw_5_12 : (Jvm.Cond.instanceMethod ({ cls := "MilkHills$Old", name := "tells", desc := "(LMilkHills$Churn;[II)I" } : Jvm.MethodName)) ∈ mh_WT := mh_in5 (i := 12) (by decide +kernel) rfl
theorem tw_5_13 : (Jvm.Cond.code ({ cls := "MilkHills$Old", name := "tells", desc := "(LMilkHills$Churn;[II)I" } : Jvm.MethodName) prog_7_method_5_code (5 : Nat) (Option.some Jvm.ClassFile.FieldType.int)) ∈ mh_WT := mh_in5 (i := 13) (by decide +kernel) rfl
theorem tw_5_14 : (Jvm.Cond.methodLink "MilkHills$Old" (34 : Nat) ({ cls := "MilkHills$Kind", name := "shakes", desc := "(LMilkHills$Churn;[II)I" } : Jvm.MethodName)) ∈ mh_WT := mh_in5 (i := 14) (by decide +kernel) rfl
theorem tw_5_15 : (Jvm.Cond.methodLink "MilkHills$Old" (39 : Nat) ({ cls := "MilkHills$Creamed", name := "tells", desc := "(LMilkHills$Churn;[II)I" } : Jvm.MethodName)) ∈ mh_WT := mh_in5 (i := 15) (by decide +kernel) rfl
theorem tw_5_16 : (Jvm.Cond.sameMethod "MilkHills$Creamed" "MilkHills$Kind" "tells" "(LMilkHills$Churn;[II)I") ∈ mh_WT := mh_in5 (i := 16) (by decide +kernel) rfl
theorem tw_5_18 : (Jvm.Cond.selects "MilkHills$Running" ({ cls := "MilkHills$Kind", name := "tells", desc := "(LMilkHills$Churn;[II)I" } : Jvm.MethodName) ({ cls := "MilkHills$Kind", name := "tells", desc := "(LMilkHills$Churn;[II)I" } : Jvm.MethodName)) ∈ mh_WT := mh_in5 (i := 18) (by decide +kernel) rfl
theorem tw_5_19 : (Jvm.Cond.selects "MilkHills$Sealed" ({ cls := "MilkHills$Kind", name := "tells", desc := "(LMilkHills$Churn;[II)I" } : Jvm.MethodName) ({ cls := "MilkHills$Sealed", name := "tells", desc := "(LMilkHills$Churn;[II)I" } : Jvm.MethodName)) ∈ mh_WT := mh_in5 (i := 19) (by decide +kernel) rfl
theorem tw_5_20 : (Jvm.Cond.instanceMethod ({ cls := "MilkHills$Sealed", name := "tells", desc := "(LMilkHills$Churn;[II)I" } : Jvm.MethodName)) ∈ mh_WT := mh_in5 (i := 20) (by decide +kernel) rfl
theorem tw_5_21 : (Jvm.Cond.code ({ cls := "MilkHills$Sealed", name := "tells", desc := "(LMilkHills$Churn;[II)I" } : Jvm.MethodName) prog_10_method_4_code (5 : Nat) (Option.some Jvm.ClassFile.FieldType.int)) ∈ mh_WT := mh_in5 (i := 21) (by decide +kernel) rfl
theorem tw_5_22 : (Jvm.Cond.methodLink "MilkHills$Sealed" (20 : Nat) ({ cls := "MilkHills$Sealed", name := "begin", desc := "([II)V" } : Jvm.MethodName)) ∈ mh_WT := mh_in5 (i := 22) (by decide +kernel) rfl
theorem tw_5_23 : (Jvm.Cond.sameMethod "MilkHills$Sealed" "MilkHills$Kind" "begin" "([II)V") ∈ mh_WT := mh_in5 (i := 23) (by decide +kernel) rfl
theorem tw_5_24 : (Jvm.Cond.methodLink "MilkHills$Sealed" (26 : Nat) ({ cls := "MilkHills$Lidded", name := "tells", desc := "(LMilkHills$Churn;[II)I" } : Jvm.MethodName)) ∈ mh_WT := mh_in5 (i := 24) (by decide +kernel) rfl
theorem tw_5_25 : (Jvm.Cond.sameMethod "MilkHills$Lidded" "MilkHills$Kind" "tells" "(LMilkHills$Churn;[II)I") ∈ mh_WT := mh_in5 (i := 25) (by decide +kernel) rfl
theorem tw_5_26 : (Jvm.Cond.methodLink "MilkHills$Sealed" (36 : Nat) ({ cls := "MilkHills$Kind", name := "fills", desc := "(LMilkHills$Churn;[II)I" } : Jvm.MethodName)) ∈ mh_WT := mh_in5 (i := 26) (by decide +kernel) rfl
theorem tw_5_27 : (Jvm.Cond.code ({ cls := "MilkHills$Kind", name := "tells", desc := "(LMilkHills$Churn;[II)I" } : Jvm.MethodName) prog_5_method_9_code (5 : Nat) (Option.some Jvm.ClassFile.FieldType.int)) ∈ mh_WT := mh_in5 (i := 27) (by decide +kernel) rfl
theorem tw_5_28 : (Jvm.Cond.methodLink "MilkHills$Kind" (33 : Nat) ({ cls := "MilkHills$Kind", name := "shakes", desc := "(LMilkHills$Churn;[II)I" } : Jvm.MethodName)) ∈ mh_WT := mh_in5 (i := 28) (by decide +kernel) rfl
theorem tw_5_29 : (Jvm.Cond.methodLink "MilkHills$Kind" (36 : Nat) ({ cls := "MilkHills$Kind", name := "cools", desc := "(LMilkHills$Churn;[II)I" } : Jvm.MethodName)) ∈ mh_WT := mh_in5 (i := 29) (by decide +kernel) rfl
theorem tw_5_30 : (Jvm.Cond.methodLink "MilkHillsLaw" (130 : Nat) ({ cls := "MilkHills", name := "trace", desc := "(I)I" } : Jvm.MethodName)) ∈ mh_WT := mh_in5 (i := 30) (by decide +kernel) rfl
theorem tw_5_31 : (Jvm.Cond.instanceMethod ({ cls := "MilkHills", name := "trace", desc := "(I)I" } : Jvm.MethodName)) ∈ mh_WT := mh_in5 (i := 31) (by decide +kernel) rfl
theorem tw_5_32 : (Jvm.Cond.selects "MilkHills" ({ cls := "MilkHills", name := "trace", desc := "(I)I" } : Jvm.MethodName) ({ cls := "MilkHills", name := "trace", desc := "(I)I" } : Jvm.MethodName)) ∈ mh_WT := mh_in5 (i := 32) (by decide +kernel) rfl
theorem tw_5_33 : (Jvm.Cond.code ({ cls := "MilkHills", name := "trace", desc := "(I)I" } : Jvm.MethodName) prog_1_method_29_code (2 : Nat) (Option.some Jvm.ClassFile.FieldType.int)) ∈ mh_WT := mh_in5 (i := 33) (by decide +kernel) rfl
theorem tw_5_34 : (Jvm.Cond.methodLink "MilkHillsLaw" (134 : Nat) ({ cls := "MilkHills", name := "sheet", desc := "(III)I" } : Jvm.MethodName)) ∈ mh_WT := mh_in5 (i := 34) (by decide +kernel) rfl
theorem tw_5_35 : (Jvm.Cond.instanceMethod ({ cls := "MilkHills", name := "sheet", desc := "(III)I" } : Jvm.MethodName)) ∈ mh_WT := mh_in5 (i := 35) (by decide +kernel) rfl
theorem tw_5_36 : (Jvm.Cond.selects "MilkHills" ({ cls := "MilkHills", name := "sheet", desc := "(III)I" } : Jvm.MethodName) ({ cls := "MilkHills", name := "sheet", desc := "(III)I" } : Jvm.MethodName)) ∈ mh_WT := mh_in5 (i := 36) (by decide +kernel) rfl
theorem tw_5_37 : (Jvm.Cond.code ({ cls := "MilkHills", name := "sheet", desc := "(III)I" } : Jvm.MethodName) prog_1_method_30_code (4 : Nat) (Option.some Jvm.ClassFile.FieldType.int)) ∈ mh_WT := mh_in5 (i := 37) (by decide +kernel) rfl
theorem tw_5_38 : (Jvm.Cond.methodLink "MilkHills" (274 : Nat) ({ cls := "MilkHills", name := "isSheet", desc := "(I)Z" } : Jvm.MethodName)) ∈ mh_WT := mh_in5 (i := 38) (by decide +kernel) rfl
theorem tw_5_39 : (Jvm.Cond.static ({ cls := "MilkHills", name := "isSheet", desc := "(I)Z" } : Jvm.MethodName)) ∈ mh_WT := mh_in5 (i := 39) (by decide +kernel) rfl
theorem tw_5_40 : (Jvm.Cond.code ({ cls := "MilkHills", name := "isSheet", desc := "(I)Z" } : Jvm.MethodName) prog_1_method_45_code (1 : Nat) (Option.some Jvm.ClassFile.FieldType.boolean)) ∈ mh_WT := mh_in5 (i := 40) (by decide +kernel) rfl
theorem tw_5_41 : (Jvm.Cond.methodLink "MilkHills" (277 : Nat) ({ cls := "java/util/Arrays", name := "fill", desc := "([II)V" } : Jvm.MethodName)) ∈ mh_WT := mh_in5 (i := 41) (by decide +kernel) rfl
theorem tw_5_42 : (Jvm.Cond.methodLink "MilkHillsLaw" (138 : Nat) ({ cls := "MilkHills", name := "put", desc := "(III)I" } : Jvm.MethodName)) ∈ mh_WT := mh_in5 (i := 42) (by decide +kernel) rfl
theorem tw_5_43 : (Jvm.Cond.instanceMethod ({ cls := "MilkHills", name := "put", desc := "(III)I" } : Jvm.MethodName)) ∈ mh_WT := mh_in5 (i := 43) (by decide +kernel) rfl
theorem tw_5_44 : (Jvm.Cond.selects "MilkHills" ({ cls := "MilkHills", name := "put", desc := "(III)I" } : Jvm.MethodName) ({ cls := "MilkHills", name := "put", desc := "(III)I" } : Jvm.MethodName)) ∈ mh_WT := mh_in5 (i := 44) (by decide +kernel) rfl
theorem tw_5_45 : (Jvm.Cond.code ({ cls := "MilkHills", name := "put", desc := "(III)I" } : Jvm.MethodName) prog_1_method_31_code (4 : Nat) (Option.some Jvm.ClassFile.FieldType.int)) ∈ mh_WT := mh_in5 (i := 45) (by decide +kernel) rfl
theorem tw_5_46 : (Jvm.Cond.methodLink "MilkHillsLaw" (142 : Nat) ({ cls := "MilkHills", name := "move", desc := "(IIIII)I" } : Jvm.MethodName)) ∈ mh_WT := mh_in5 (i := 46) (by decide +kernel) rfl
theorem tw_5_47 : (Jvm.Cond.instanceMethod ({ cls := "MilkHills", name := "move", desc := "(IIIII)I" } : Jvm.MethodName)) ∈ mh_WT := mh_in5 (i := 47) (by decide +kernel) rfl
theorem tw_5_48 : (Jvm.Cond.selects "MilkHills" ({ cls := "MilkHills", name := "move", desc := "(IIIII)I" } : Jvm.MethodName) ({ cls := "MilkHills", name := "move", desc := "(IIIII)I" } : Jvm.MethodName)) ∈ mh_WT := mh_in5 (i := 48) (by decide +kernel) rfl
theorem tw_5_49 : (Jvm.Cond.code ({ cls := "MilkHills", name := "move", desc := "(IIIII)I" } : Jvm.MethodName) prog_1_method_32_code (6 : Nat) (Option.some Jvm.ClassFile.FieldType.int)) ∈ mh_WT := mh_in5 (i := 49) (by decide +kernel) rfl
theorem tw_5_50 : (Jvm.Cond.methodLink "MilkHills" (283 : Nat) ({ cls := "MilkHills", name := "stand", desc := "(III)Z" } : Jvm.MethodName)) ∈ mh_WT := mh_in5 (i := 50) (by decide +kernel) rfl
theorem tw_5_52 : (Jvm.Cond.instanceMethod ({ cls := "MilkHills", name := "stand", desc := "(III)Z" } : Jvm.MethodName)) ∈ mh_WT := mh_in5 (i := 52) (by decide +kernel) rfl
theorem tw_5_53 : (Jvm.Cond.code ({ cls := "MilkHills", name := "stand", desc := "(III)Z" } : Jvm.MethodName) prog_1_method_47_code (4 : Nat) (Option.some Jvm.ClassFile.FieldType.boolean)) ∈ mh_WT := mh_in5 (i := 53) (by decide +kernel) rfl
theorem tw_5_54 : (Jvm.Cond.methodLink "MilkHills" (286 : Nat) ({ cls := "java/lang/System", name := "arraycopy", desc := "(Ljava/lang/Object;ILjava/lang/Object;II)V" } : Jvm.MethodName)) ∈ mh_WT := mh_in5 (i := 54) (by decide +kernel) rfl
theorem tw_5_55 : (Jvm.Cond.methodLink "MilkHillsLaw" (147 : Nat) ({ cls := "MilkHills", name := "heats", desc := "(I)I" } : Jvm.MethodName)) ∈ mh_WT := mh_in5 (i := 55) (by decide +kernel) rfl
theorem tw_5_56 : (Jvm.Cond.instanceMethod ({ cls := "MilkHills", name := "heats", desc := "(I)I" } : Jvm.MethodName)) ∈ mh_WT := mh_in5 (i := 56) (by decide +kernel) rfl
theorem tw_5_57 : (Jvm.Cond.selects "MilkHills" ({ cls := "MilkHills", name := "heats", desc := "(I)I" } : Jvm.MethodName) ({ cls := "MilkHills", name := "heats", desc := "(I)I" } : Jvm.MethodName)) ∈ mh_WT := mh_in5 (i := 57) (by decide +kernel) rfl
theorem tw_5_58 : (Jvm.Cond.code ({ cls := "MilkHills", name := "heats", desc := "(I)I" } : Jvm.MethodName) prog_1_method_33_code (5 : Nat) (Option.some Jvm.ClassFile.FieldType.int)) ∈ mh_WT := mh_in5 (i := 58) (by decide +kernel) rfl
theorem tw_5_59 : (Jvm.Cond.methodLink "MilkHills" (292 : Nat) ({ cls := "java/lang/Math", name := "min", desc := "(II)I" } : Jvm.MethodName)) ∈ mh_WT := mh_in5 (i := 59) (by decide +kernel) rfl
theorem tw_5_60 : (Jvm.Cond.methodLink "MilkHillsLaw" (151 : Nat) ({ cls := "MilkHills", name := "judge", desc := "(I)I" } : Jvm.MethodName)) ∈ mh_WT := mh_in5 (i := 60) (by decide +kernel) rfl
theorem tw_5_61 : (Jvm.Cond.instanceMethod ({ cls := "MilkHills", name := "judge", desc := "(I)I" } : Jvm.MethodName)) ∈ mh_WT := mh_in5 (i := 61) (by decide +kernel) rfl
theorem tw_5_62 : (Jvm.Cond.selects "MilkHills" ({ cls := "MilkHills", name := "judge", desc := "(I)I" } : Jvm.MethodName) ({ cls := "MilkHills", name := "judge", desc := "(I)I" } : Jvm.MethodName)) ∈ mh_WT := mh_in5 (i := 62) (by decide +kernel) rfl
theorem tw_5_63 : (Jvm.Cond.code ({ cls := "MilkHills", name := "judge", desc := "(I)I" } : Jvm.MethodName) prog_1_method_34_code (4 : Nat) (Option.some Jvm.ClassFile.FieldType.int)) ∈ mh_WT := mh_in5 (i := 63) (by decide +kernel) rfl
theorem tw_5_64 : (Jvm.Cond.methodLink "MilkHillsLaw" (155 : Nat) ({ cls := "MilkHills", name := "image", desc := "()I" } : Jvm.MethodName)) ∈ mh_WT := mh_in5 (i := 64) (by decide +kernel) rfl
theorem tw_5_65 : (Jvm.Cond.instanceMethod ({ cls := "MilkHills", name := "image", desc := "()I" } : Jvm.MethodName)) ∈ mh_WT := mh_in5 (i := 65) (by decide +kernel) rfl
theorem tw_5_66 : (Jvm.Cond.selects "MilkHills" ({ cls := "MilkHills", name := "image", desc := "()I" } : Jvm.MethodName) ({ cls := "MilkHills", name := "image", desc := "()I" } : Jvm.MethodName)) ∈ mh_WT := mh_in5 (i := 66) (by decide +kernel) rfl
theorem tw_5_67 : (Jvm.Cond.code ({ cls := "MilkHills", name := "image", desc := "()I" } : Jvm.MethodName) prog_1_method_35_code (1 : Nat) (Option.some Jvm.ClassFile.FieldType.int)) ∈ mh_WT := mh_in5 (i := 67) (by decide +kernel) rfl
theorem tw_5_68 : (Jvm.Cond.methodLink "MilkHills" (300 : Nat) ({ cls := "MilkHills$World", name := "copy", desc := "(LMilkHills$World;)V" } : Jvm.MethodName)) ∈ mh_WT := mh_in5 (i := 68) (by decide +kernel) rfl
theorem tw_5_69 : (Jvm.Cond.instanceMethod ({ cls := "MilkHills$World", name := "copy", desc := "(LMilkHills$World;)V" } : Jvm.MethodName)) ∈ mh_WT := mh_in5 (i := 69) (by decide +kernel) rfl
theorem tw_5_70 : (Jvm.Cond.selects "MilkHills$World" ({ cls := "MilkHills$World", name := "copy", desc := "(LMilkHills$World;)V" } : Jvm.MethodName) ({ cls := "MilkHills$World", name := "copy", desc := "(LMilkHills$World;)V" } : Jvm.MethodName)) ∈ mh_WT := mh_in5 (i := 70) (by decide +kernel) rfl
theorem tw_5_71 : (Jvm.Cond.code ({ cls := "MilkHills$World", name := "copy", desc := "(LMilkHills$World;)V" } : Jvm.MethodName) prog_12_method_2_code (3 : Nat) (Option.none : Option Jvm.ClassFile.FieldType)) ∈ mh_WT := mh_in5 (i := 71) (by decide +kernel) rfl
theorem tw_5_72 : (Jvm.Cond.methodLink "MilkHills$World" (73 : Nat) ({ cls := "java/lang/System", name := "arraycopy", desc := "(Ljava/lang/Object;ILjava/lang/Object;II)V" } : Jvm.MethodName)) ∈ mh_WT := mh_in5 (i := 72) (by decide +kernel) rfl
theorem tw_5_73 : (Jvm.Cond.methodLink "MilkHills$World" (79 : Nat) ({ cls := "MilkHills$Churn", name := "copy", desc := "(LMilkHills$Churn;)V" } : Jvm.MethodName)) ∈ mh_WT := mh_in5 (i := 73) (by decide +kernel) rfl
theorem tw_5_74 : (Jvm.Cond.methodLink "MilkHills$World" (95 : Nat) ({ cls := "MilkHills$Text", name := "copy", desc := "(LMilkHills$Text;)V" } : Jvm.MethodName)) ∈ mh_WT := mh_in5 (i := 74) (by decide +kernel) rfl
theorem tw_5_75 : (Jvm.Cond.instanceMethod ({ cls := "MilkHills$Text", name := "copy", desc := "(LMilkHills$Text;)V" } : Jvm.MethodName)) ∈ mh_WT := mh_in5 (i := 75) (by decide +kernel) rfl
theorem tw_5_76 : (Jvm.Cond.selects "MilkHills$Text" ({ cls := "MilkHills$Text", name := "copy", desc := "(LMilkHills$Text;)V" } : Jvm.MethodName) ({ cls := "MilkHills$Text", name := "copy", desc := "(LMilkHills$Text;)V" } : Jvm.MethodName)) ∈ mh_WT := mh_in5 (i := 76) (by decide +kernel) rfl
theorem tw_5_77 : (Jvm.Cond.code ({ cls := "MilkHills$Text", name := "copy", desc := "(LMilkHills$Text;)V" } : Jvm.MethodName) prog_11_method_2_code (2 : Nat) (Option.none : Option Jvm.ClassFile.FieldType)) ∈ mh_WT := mh_in5 (i := 77) (by decide +kernel) rfl
theorem tw_5_78 : (Jvm.Cond.methodLink "MilkHillsLaw" (159 : Nat) ({ cls := "MilkHills", name := "restore", desc := "()I" } : Jvm.MethodName)) ∈ mh_WT := mh_in5 (i := 78) (by decide +kernel) rfl
theorem tw_5_79 : (Jvm.Cond.instanceMethod ({ cls := "MilkHills", name := "restore", desc := "()I" } : Jvm.MethodName)) ∈ mh_WT := mh_in5 (i := 79) (by decide +kernel) rfl
theorem tw_5_80 : (Jvm.Cond.selects "MilkHills" ({ cls := "MilkHills", name := "restore", desc := "()I" } : Jvm.MethodName) ({ cls := "MilkHills", name := "restore", desc := "()I" } : Jvm.MethodName)) ∈ mh_WT := mh_in5 (i := 80) (by decide +kernel) rfl
theorem tw_5_81 : (Jvm.Cond.code ({ cls := "MilkHills", name := "restore", desc := "()I" } : Jvm.MethodName) prog_1_method_36_code (1 : Nat) (Option.some Jvm.ClassFile.FieldType.int)) ∈ mh_WT := mh_in5 (i := 81) (by decide +kernel) rfl
theorem tw_5_82 : (Jvm.Cond.methodLink "MilkHillsLaw" (163 : Nat) ({ cls := "MilkHills", name := "tell", desc := "(I)I" } : Jvm.MethodName)) ∈ mh_WT := mh_in5 (i := 82) (by decide +kernel) rfl
theorem tw_5_83 : (Jvm.Cond.instanceMethod ({ cls := "MilkHills", name := "tell", desc := "(I)I" } : Jvm.MethodName)) ∈ mh_WT := mh_in5 (i := 83) (by decide +kernel) rfl
theorem tw_5_84 : (Jvm.Cond.selects "MilkHills" ({ cls := "MilkHills", name := "tell", desc := "(I)I" } : Jvm.MethodName) ({ cls := "MilkHills", name := "tell", desc := "(I)I" } : Jvm.MethodName)) ∈ mh_WT := mh_in5 (i := 84) (by decide +kernel) rfl
theorem tw_5_85 : (Jvm.Cond.code ({ cls := "MilkHills", name := "tell", desc := "(I)I" } : Jvm.MethodName) prog_1_method_37_code (2 : Nat) (Option.some Jvm.ClassFile.FieldType.int)) ∈ mh_WT := mh_in5 (i := 85) (by decide +kernel) rfl
theorem tw_5_86 : (Jvm.Cond.methodLink "MilkHillsLaw" (167 : Nat) ({ cls := "MilkHills", name := "check", desc := "()I" } : Jvm.MethodName)) ∈ mh_WT := mh_in5 (i := 86) (by decide +kernel) rfl
theorem tw_5_87 : (Jvm.Cond.instanceMethod ({ cls := "MilkHills", name := "check", desc := "()I" } : Jvm.MethodName)) ∈ mh_WT := mh_in5 (i := 87) (by decide +kernel) rfl
theorem tw_5_88 : (Jvm.Cond.selects "MilkHills" ({ cls := "MilkHills", name := "check", desc := "()I" } : Jvm.MethodName) ({ cls := "MilkHills", name := "check", desc := "()I" } : Jvm.MethodName)) ∈ mh_WT := mh_in5 (i := 88) (by decide +kernel) rfl
theorem tw_5_89 : (Jvm.Cond.code ({ cls := "MilkHills", name := "check", desc := "()I" } : Jvm.MethodName) prog_1_method_38_code (3 : Nat) (Option.some Jvm.ClassFile.FieldType.int)) ∈ mh_WT := mh_in5 (i := 89) (by decide +kernel) rfl
theorem tw_5_90 : (Jvm.Cond.methodLink "MilkHills" (312 : Nat) ({ cls := "MilkHills", name := "sourBehindNext", desc := "(I)I" } : Jvm.MethodName)) ∈ mh_WT := mh_in5 (i := 90) (by decide +kernel) rfl
theorem tw_5_92 : (Jvm.Cond.instanceMethod ({ cls := "MilkHills", name := "sourBehindNext", desc := "(I)I" } : Jvm.MethodName)) ∈ mh_WT := mh_in5 (i := 92) (by decide +kernel) rfl
theorem tw_5_93 : (Jvm.Cond.code ({ cls := "MilkHills", name := "sourBehindNext", desc := "(I)I" } : Jvm.MethodName) prog_1_method_49_code (4 : Nat) (Option.some Jvm.ClassFile.FieldType.int)) ∈ mh_WT := mh_in5 (i := 93) (by decide +kernel) rfl
theorem tw_5_94 : (Jvm.Cond.methodLink "MilkHillsLaw" (171 : Nat) ({ cls := "MilkHills", name := "count", desc := "(I)I" } : Jvm.MethodName)) ∈ mh_WT := mh_in5 (i := 94) (by decide +kernel) rfl
theorem tw_5_95 : (Jvm.Cond.instanceMethod ({ cls := "MilkHills", name := "count", desc := "(I)I" } : Jvm.MethodName)) ∈ mh_WT := mh_in5 (i := 95) (by decide +kernel) rfl
theorem tw_5_96 : (Jvm.Cond.selects "MilkHills" ({ cls := "MilkHills", name := "count", desc := "(I)I" } : Jvm.MethodName) ({ cls := "MilkHills", name := "count", desc := "(I)I" } : Jvm.MethodName)) ∈ mh_WT := mh_in5 (i := 96) (by decide +kernel) rfl
theorem tw_5_97 : (Jvm.Cond.code ({ cls := "MilkHills", name := "count", desc := "(I)I" } : Jvm.MethodName) prog_1_method_39_code (2 : Nat) (Option.some Jvm.ClassFile.FieldType.int)) ∈ mh_WT := mh_in5 (i := 97) (by decide +kernel) rfl
theorem tw_5_98 : (Jvm.Cond.methodLink "MilkHills" (315 : Nat) ({ cls := "MilkHills$World", name := "howMany", desc := "(I)I" } : Jvm.MethodName)) ∈ mh_WT := mh_in5 (i := 98) (by decide +kernel) rfl
theorem tw_5_99 : (Jvm.Cond.instanceMethod ({ cls := "MilkHills$World", name := "howMany", desc := "(I)I" } : Jvm.MethodName)) ∈ mh_WT := mh_in5 (i := 99) (by decide +kernel) rfl
theorem tw_5_100 : (Jvm.Cond.selects "MilkHills$World" ({ cls := "MilkHills$World", name := "howMany", desc := "(I)I" } : Jvm.MethodName) ({ cls := "MilkHills$World", name := "howMany", desc := "(I)I" } : Jvm.MethodName)) ∈ mh_WT := mh_in5 (i := 100) (by decide +kernel) rfl
theorem tw_5_101 : (Jvm.Cond.code ({ cls := "MilkHills$World", name := "howMany", desc := "(I)I" } : Jvm.MethodName) prog_12_method_10_code (4 : Nat) (Option.some Jvm.ClassFile.FieldType.int)) ∈ mh_WT := mh_in5 (i := 101) (by decide +kernel) rfl
theorem tw_5_102 : (Jvm.Cond.methodLink "MilkHills" (318 : Nat) ({ cls := "MilkHills$World", name := "sweetOnes", desc := "()I" } : Jvm.MethodName)) ∈ mh_WT := mh_in5 (i := 102) (by decide +kernel) rfl
theorem tw_5_103 : (Jvm.Cond.instanceMethod ({ cls := "MilkHills$World", name := "sweetOnes", desc := "()I" } : Jvm.MethodName)) ∈ mh_WT := mh_in5 (i := 103) (by decide +kernel) rfl
theorem tw_5_104 : (Jvm.Cond.selects "MilkHills$World" ({ cls := "MilkHills$World", name := "sweetOnes", desc := "()I" } : Jvm.MethodName) ({ cls := "MilkHills$World", name := "sweetOnes", desc := "()I" } : Jvm.MethodName)) ∈ mh_WT := mh_in5 (i := 104) (by decide +kernel) rfl
theorem tw_5_105 : (Jvm.Cond.code ({ cls := "MilkHills$World", name := "sweetOnes", desc := "()I" } : Jvm.MethodName) prog_12_method_11_code (3 : Nat) (Option.some Jvm.ClassFile.FieldType.int)) ∈ mh_WT := mh_in5 (i := 105) (by decide +kernel) rfl
theorem tw_5_106 : (Jvm.Cond.methodLink "MilkHillsLaw" (175 : Nat) ({ cls := "MilkHills", name := "told", desc := "(I)I" } : Jvm.MethodName)) ∈ mh_WT := mh_in5 (i := 106) (by decide +kernel) rfl
theorem tw_5_107 : (Jvm.Cond.instanceMethod ({ cls := "MilkHills", name := "told", desc := "(I)I" } : Jvm.MethodName)) ∈ mh_WT := mh_in5 (i := 107) (by decide +kernel) rfl
theorem tw_5_108 : (Jvm.Cond.selects "MilkHills" ({ cls := "MilkHills", name := "told", desc := "(I)I" } : Jvm.MethodName) ({ cls := "MilkHills", name := "told", desc := "(I)I" } : Jvm.MethodName)) ∈ mh_WT := mh_in5 (i := 108) (by decide +kernel) rfl
theorem tw_5_109 : (Jvm.Cond.code ({ cls := "MilkHills", name := "told", desc := "(I)I" } : Jvm.MethodName) prog_1_method_40_code (2 : Nat) (Option.some Jvm.ClassFile.FieldType.int)) ∈ mh_WT := mh_in5 (i := 109) (by decide +kernel) rfl
theorem tw_5_110 : (Jvm.Cond.classLink "MilkHillsLaw" (10 : Nat) "MilkHillsModel") ∈ mh_WT := mh_in5 (i := 110) (by decide +kernel) rfl
theorem tw_5_111 : (Jvm.Cond.instantiable "MilkHillsModel" (30 : Nat)) ∈ mh_WT := mh_in5 (i := 111) (by decide +kernel) rfl
theorem tw_5_112 : (Jvm.Cond.methodLink "MilkHillsLaw" (12 : Nat) ({ cls := "MilkHillsModel", name := "<init>", desc := "()V" } : Jvm.MethodName)) ∈ mh_WT := mh_in5 (i := 112) (by decide +kernel) rfl
theorem tw_5_113 : (Jvm.Cond.instanceMethod ({ cls := "MilkHillsModel", name := "<init>", desc := "()V" } : Jvm.MethodName)) ∈ mh_WT := mh_in5 (i := 113) (by decide +kernel) rfl
theorem tw_5_114 : (Jvm.Cond.code ({ cls := "MilkHillsModel", name := "<init>", desc := "()V" } : Jvm.MethodName) prog_14_method_1_code (2 : Nat) (Option.none : Option Jvm.ClassFile.FieldType)) ∈ mh_WT := mh_in5 (i := 114) (by decide +kernel) rfl
theorem tw_5_115 : (Jvm.Cond.methodLink "MilkHillsModel" (3 : Nat) ({ cls := "java/lang/Object", name := "<init>", desc := "()V" } : Jvm.MethodName)) ∈ mh_WT := mh_in5 (i := 115) (by decide +kernel) rfl
theorem tw_5_116 : (Jvm.Cond.constant "MilkHillsModel" (31 : Nat) (36600 : Int32)) ∈ mh_WT := mh_in5 (i := 116) (by decide +kernel) rfl
theorem tw_5_117 : (Jvm.Cond.fieldLink "MilkHillsModel" (9 : Nat) "MilkHillsModel" "s" "[I") ∈ mh_WT := mh_in5 (i := 117) (by decide +kernel) rfl
theorem tw_5_118 : (Jvm.Cond.fieldLink "MilkHillsModel" (13 : Nat) "MilkHillsModel" "kept" "[I") ∈ mh_WT := mh_in5 (i := 118) (by decide +kernel) rfl
theorem tw_5_119 : (Jvm.Cond.fieldLink "MilkHillsModel" (16 : Nat) "MilkHillsModel" "aside" "[I") ∈ mh_WT := mh_in5 (i := 119) (by decide +kernel) rfl
theorem tw_5_120 : (Jvm.Cond.fieldLink "MilkHillsModel" (395 : Nat) "MilkHillsModel" "isKept" "Z") ∈ mh_WT := mh_in5 (i := 120) (by decide +kernel) rfl
theorem tw_5_121 : (Jvm.Cond.fieldLink "MilkHillsModel" (398 : Nat) "MilkHillsModel" "images" "I") ∈ mh_WT := mh_in5 (i := 121) (by decide +kernel) rfl
theorem tw_5_122 : (Jvm.Cond.fieldLink "MilkHillsModel" (19 : Nat) "MilkHillsModel" "errors" "[I") ∈ mh_WT := mh_in5 (i := 122) (by decide +kernel) rfl
theorem tw_5_123 : (Jvm.Cond.fieldLink "MilkHillsModel" (22 : Nat) "MilkHillsModel" "name" "[I") ∈ mh_WT := mh_in5 (i := 123) (by decide +kernel) rfl
theorem tw_5_124 : (Jvm.Cond.fieldLink "MilkHillsModel" (25 : Nat) "MilkHillsModel" "stack" "[I") ∈ mh_WT := mh_in5 (i := 124) (by decide +kernel) rfl
theorem tw_5_125 : (Jvm.Cond.fieldLink "MilkHillsModel" (28 : Nat) "MilkHillsModel" "fresh" "[I") ∈ mh_WT := mh_in5 (i := 125) (by decide +kernel) rfl
theorem tw_5_126 : (Jvm.Cond.fieldLink "MilkHillsModel" (196 : Nat) "MilkHillsModel" "freshMany" "I") ∈ mh_WT := mh_in5 (i := 126) (by decide +kernel) rfl
theorem tw_5_127 : (Jvm.Cond.fieldLink "MilkHillsModel" (180 : Nat) "MilkHillsModel" "at" "I") ∈ mh_WT := mh_in5 (i := 127) (by decide +kernel) rfl
theorem tw_5_128 : (Jvm.Cond.fieldLink "MilkHillsModel" (209 : Nat) "MilkHillsModel" "open" "I") ∈ mh_WT := mh_in5 (i := 128) (by decide +kernel) rfl
theorem tw_5_129 : (Jvm.Cond.fieldLink "MilkHillsModel" (199 : Nat) "MilkHillsModel" "useRead" "I") ∈ mh_WT := mh_in5 (i := 129) (by decide +kernel) rfl
theorem tw_5_130 : (Jvm.Cond.fieldLink "MilkHillsModel" (184 : Nat) "MilkHillsModel" "isWrong" "Z") ∈ mh_WT := mh_in5 (i := 130) (by decide +kernel) rfl
theorem tw_5_131 : (Jvm.Cond.fieldLink "MilkHillsModel" (32 : Nat) "MilkHillsModel" "least" "[I") ∈ mh_WT := mh_in5 (i := 131) (by decide +kernel) rfl
theorem tw_5_132 : (Jvm.Cond.fieldLink "MilkHillsModel" (35 : Nat) "MilkHillsModel" "warmed" "[I") ∈ mh_WT := mh_in5 (i := 132) (by decide +kernel) rfl
theorem tw_5_133 : (Jvm.Cond.fieldLink "MilkHillsModel" (290 : Nat) "MilkHillsModel" "bestWay" "I") ∈ mh_WT := mh_in5 (i := 133) (by decide +kernel) rfl
theorem tw_5_134 : (Jvm.Cond.fieldLink "MilkHillsModel" (317 : Nat) "MilkHillsModel" "isAt" "I") ∈ mh_WT := mh_in5 (i := 134) (by decide +kernel) rfl
theorem tw_5_135 : (Jvm.Cond.fieldLink "MilkHillsModel" (320 : Nat) "MilkHillsModel" "quarterThen" "I") ∈ mh_WT := mh_in5 (i := 135) (by decide +kernel) rfl
theorem tw_5_136 : (Jvm.Cond.fieldLink "MilkHillsModel" (323 : Nat) "MilkHillsModel" "sourThen" "I") ∈ mh_WT := mh_in5 (i := 136) (by decide +kernel) rfl
theorem tw_5_137 : (Jvm.Cond.fieldLink "MilkHillsModel" (326 : Nat) "MilkHillsModel" "shakenThen" "I") ∈ mh_WT := mh_in5 (i := 137) (by decide +kernel) rfl
theorem tw_5_138 : (Jvm.Cond.fieldLink "MilkHillsModel" (38 : Nat) "MilkHillsModel" "ran" "[I") ∈ mh_WT := mh_in5 (i := 138) (by decide +kernel) rfl
theorem tw_5_139 : (Jvm.Cond.fieldLink "MilkHillsModel" (345 : Nat) "MilkHillsModel" "bodies" "I") ∈ mh_WT := mh_in5 (i := 139) (by decide +kernel) rfl
theorem tw_5_140 : (Jvm.Cond.fieldLink "MilkHillsModel" (348 : Nat) "MilkHillsModel" "kind" "I") ∈ mh_WT := mh_in5 (i := 140) (by decide +kernel) rfl
theorem tw_5_141 : (Jvm.Cond.fieldLink "MilkHillsModel" (354 : Nat) "MilkHillsModel" "n" "I") ∈ mh_WT := mh_in5 (i := 141) (by decide +kernel) rfl
theorem tw_5_142 : (Jvm.Cond.fieldLink "MilkHillsModel" (369 : Nat) "MilkHillsModel" "m" "I") ∈ mh_WT := mh_in5 (i := 142) (by decide +kernel) rfl
theorem tw_5_143 : (Jvm.Cond.fieldLink "MilkHillsModel" (41 : Nat) "MilkHillsModel" "bitsOf" "[I") ∈ mh_WT := mh_in5 (i := 143) (by decide +kernel) rfl
theorem tw_5_144 : (Jvm.Cond.fieldLink "MilkHillsModel" (44 : Nat) "MilkHillsModel" "sizeOf" "[I") ∈ mh_WT := mh_in5 (i := 144) (by decide +kernel) rfl
theorem tw_5_145 : (Jvm.Cond.fieldLink "MilkHillsModel" (47 : Nat) "MilkHillsModel" "number" "[I") ∈ mh_WT := mh_in5 (i := 145) (by decide +kernel) rfl
theorem tw_5_146 : (Jvm.Cond.fieldLink "MilkHillsModel" (50 : Nat) "MilkHillsModel" "moved" "[I") ∈ mh_WT := mh_in5 (i := 146) (by decide +kernel) rfl
theorem tw_5_207 : (Jvm.Cond.superclass "MilkHillsModel" "java/lang/Object") ∈ mh_WT := mh_in5 (i := 207) (by decide +kernel) rfl
theorem tw_5_208 : (Jvm.Cond.methodLink "MilkHillsLaw" (17 : Nat) ({ cls := "MilkHillsModel", name := "hill", desc := "(III)I" } : Jvm.MethodName)) ∈ mh_WT := mh_in5 (i := 208) (by decide +kernel) rfl
theorem tw_5_209 : (Jvm.Cond.instanceMethod ({ cls := "MilkHillsModel", name := "hill", desc := "(III)I" } : Jvm.MethodName)) ∈ mh_WT := mh_in5 (i := 209) (by decide +kernel) rfl
theorem tw_5_210 : (Jvm.Cond.selects "MilkHillsModel" ({ cls := "MilkHillsModel", name := "hill", desc := "(III)I" } : Jvm.MethodName) ({ cls := "MilkHillsModel", name := "hill", desc := "(III)I" } : Jvm.MethodName)) ∈ mh_WT := mh_in5 (i := 210) (by decide +kernel) rfl
theorem tw_5_211 : (Jvm.Cond.code ({ cls := "MilkHillsModel", name := "hill", desc := "(III)I" } : Jvm.MethodName) prog_14_method_30_code (5 : Nat) (Option.some Jvm.ClassFile.FieldType.int)) ∈ mh_WT := mh_in5 (i := 211) (by decide +kernel) rfl
theorem tw_5_212 : (Jvm.Cond.methodLink "MilkHillsModel" (105 : Nat) ({ cls := "MilkHillsModel", name := "isHill", desc := "(I)Z" } : Jvm.MethodName)) ∈ mh_WT := mh_in5 (i := 212) (by decide +kernel) rfl
theorem tw_5_213 : (Jvm.Cond.static ({ cls := "MilkHillsModel", name := "isHill", desc := "(I)Z" } : Jvm.MethodName)) ∈ mh_WT := mh_in5 (i := 213) (by decide +kernel) rfl
theorem tw_5_214 : (Jvm.Cond.code ({ cls := "MilkHillsModel", name := "isHill", desc := "(I)Z" } : Jvm.MethodName) prog_14_method_8_code (1 : Nat) (Option.some Jvm.ClassFile.FieldType.boolean)) ∈ mh_WT := mh_in5 (i := 214) (by decide +kernel) rfl
theorem tw_5_215 : (Jvm.Cond.constantLong "MilkHillsModel" (67 : Nat) (8 : Int64)) ∈ mh_WT := mh_in5 (i := 215) (by decide +kernel) rfl
theorem tw_5_216 : (Jvm.Cond.methodLink "MilkHillsModel" (69 : Nat) ({ cls := "MilkHillsModel", name := "in", desc := "(JJJ)Z" } : Jvm.MethodName)) ∈ mh_WT := mh_in5 (i := 216) (by decide +kernel) rfl
theorem tw_5_217 : (Jvm.Cond.static ({ cls := "MilkHillsModel", name := "in", desc := "(JJJ)Z" } : Jvm.MethodName)) ∈ mh_WT := mh_in5 (i := 217) (by decide +kernel) rfl
theorem tw_5_218 : (Jvm.Cond.code ({ cls := "MilkHillsModel", name := "in", desc := "(JJJ)Z" } : Jvm.MethodName) prog_14_method_3_code (6 : Nat) (Option.some Jvm.ClassFile.FieldType.boolean)) ∈ mh_WT := mh_in5 (i := 218) (by decide +kernel) rfl
theorem tw_5_219 : (Jvm.Cond.constantLong "MilkHillsModel" (109 : Nat) (2 : Int64)) ∈ mh_WT := mh_in5 (i := 219) (by decide +kernel) rfl
theorem tw_5_220 : (Jvm.Cond.methodLink "MilkHillsModel" (111 : Nat) ({ cls := "MilkHillsModel", name := "mostOf", desc := "(I)I" } : Jvm.MethodName)) ∈ mh_WT := mh_in5 (i := 220) (by decide +kernel) rfl
theorem tw_5_221 : (Jvm.Cond.static ({ cls := "MilkHillsModel", name := "mostOf", desc := "(I)I" } : Jvm.MethodName)) ∈ mh_WT := mh_in5 (i := 221) (by decide +kernel) rfl
theorem tw_5_222 : (Jvm.Cond.code ({ cls := "MilkHillsModel", name := "mostOf", desc := "(I)I" } : Jvm.MethodName) prog_14_method_29_code (1 : Nat) (Option.some Jvm.ClassFile.FieldType.int)) ∈ mh_WT := mh_in5 (i := 222) (by decide +kernel) rfl
theorem tw_5_223 : (Jvm.Cond.methodLink "MilkHillsModel" (114 : Nat) ({ cls := "MilkHillsModel", name := "error", desc := "(I)I" } : Jvm.MethodName)) ∈ mh_WT := mh_in5 (i := 223) (by decide +kernel) rfl
theorem tw_5_225 : (Jvm.Cond.instanceMethod ({ cls := "MilkHillsModel", name := "error", desc := "(I)I" } : Jvm.MethodName)) ∈ mh_WT := mh_in5 (i := 225) (by decide +kernel) rfl
theorem tw_5_226 : (Jvm.Cond.code ({ cls := "MilkHillsModel", name := "error", desc := "(I)I" } : Jvm.MethodName) prog_14_method_2_code (2 : Nat) (Option.some Jvm.ClassFile.FieldType.int)) ∈ mh_WT := mh_in5 (i := 226) (by decide +kernel) rfl
theorem tw_5_227 : (Jvm.Cond.constant "MilkHillsModel" (53 : Nat) (-1000000000 : Int32)) ∈ mh_WT := mh_in5 (i := 227) (by decide +kernel) rfl
theorem tw_5_228 : (Jvm.Cond.methodLink "MilkHillsModel" (117 : Nat) ({ cls := "MilkHillsModel", name := "inBrook", desc := "(I)I" } : Jvm.MethodName)) ∈ mh_WT := mh_in5 (i := 228) (by decide +kernel) rfl
theorem tw_5_230 : (Jvm.Cond.instanceMethod ({ cls := "MilkHillsModel", name := "inBrook", desc := "(I)I" } : Jvm.MethodName)) ∈ mh_WT := mh_in5 (i := 230) (by decide +kernel) rfl
theorem tw_5_231 : (Jvm.Cond.code ({ cls := "MilkHillsModel", name := "inBrook", desc := "(I)I" } : Jvm.MethodName) prog_14_method_28_code (4 : Nat) (Option.some Jvm.ClassFile.FieldType.int)) ∈ mh_WT := mh_in5 (i := 231) (by decide +kernel) rfl
theorem tw_5_232 : (Jvm.Cond.methodLink "MilkHillsModel" (79 : Nat) ({ cls := "MilkHillsModel", name := "its", desc := "(II)I" } : Jvm.MethodName)) ∈ mh_WT := mh_in5 (i := 232) (by decide +kernel) rfl
theorem tw_5_234 : (Jvm.Cond.instanceMethod ({ cls := "MilkHillsModel", name := "its", desc := "(II)I" } : Jvm.MethodName)) ∈ mh_WT := mh_in5 (i := 234) (by decide +kernel) rfl
theorem tw_5_235 : (Jvm.Cond.code ({ cls := "MilkHillsModel", name := "its", desc := "(II)I" } : Jvm.MethodName) prog_14_method_11_code (3 : Nat) (Option.some Jvm.ClassFile.FieldType.int)) ∈ mh_WT := mh_in5 (i := 235) (by decide +kernel) rfl
theorem tw_5_236 : (Jvm.Cond.methodLink "MilkHillsModel" (98 : Nat) ({ cls := "MilkHillsModel", name := "ofHillNow", desc := "(II)I" } : Jvm.MethodName)) ∈ mh_WT := mh_in5 (i := 236) (by decide +kernel) rfl
theorem tw_5_238 : (Jvm.Cond.instanceMethod ({ cls := "MilkHillsModel", name := "ofHillNow", desc := "(II)I" } : Jvm.MethodName)) ∈ mh_WT := mh_in5 (i := 238) (by decide +kernel) rfl
theorem tw_5_239 : (Jvm.Cond.code ({ cls := "MilkHillsModel", name := "ofHillNow", desc := "(II)I" } : Jvm.MethodName) prog_14_method_13_code (3 : Nat) (Option.some Jvm.ClassFile.FieldType.int)) ∈ mh_WT := mh_in5 (i := 239) (by decide +kernel) rfl
theorem tw_6_0 : (Jvm.Cond.methodLink "MilkHillsLaw" (22 : Nat) ({ cls := "MilkHillsModel", name := "ofHill", desc := "(II)I" } : Jvm.MethodName)) ∈ mh_WT := mh_in6 (i := 0) (by decide +kernel) rfl
theorem tw_6_1 : (Jvm.Cond.instanceMethod ({ cls := "MilkHillsModel", name := "ofHill", desc := "(II)I" } : Jvm.MethodName)) ∈ mh_WT := mh_in6 (i := 1) (by decide +kernel) rfl
theorem tw_6_2 : (Jvm.Cond.selects "MilkHillsModel" ({ cls := "MilkHillsModel", name := "ofHill", desc := "(II)I" } : Jvm.MethodName) ({ cls := "MilkHillsModel", name := "ofHill", desc := "(II)I" } : Jvm.MethodName)) ∈ mh_WT := mh_in6 (i := 2) (by decide +kernel) rfl
theorem tw_6_3 : (Jvm.Cond.code ({ cls := "MilkHillsModel", name := "ofHill", desc := "(II)I" } : Jvm.MethodName) prog_14_method_31_code (3 : Nat) (Option.some Jvm.ClassFile.FieldType.int)) ∈ mh_WT := mh_in6 (i := 3) (by decide +kernel) rfl
theorem tw_6_4 : (Jvm.Cond.constantLong "MilkHillsModel" (120 : Nat) (4 : Int64)) ∈ mh_WT := mh_in6 (i := 4) (by decide +kernel) rfl
theorem tw_6_5 : (Jvm.Cond.methodLink "MilkHillsModel" (122 : Nat) ({ cls := "MilkHillsModel", name := "warm", desc := "(II)I" } : Jvm.MethodName)) ∈ mh_WT := mh_in6 (i := 5) (by decide +kernel) rfl
theorem tw_6_7 : (Jvm.Cond.instanceMethod ({ cls := "MilkHillsModel", name := "warm", desc := "(II)I" } : Jvm.MethodName)) ∈ mh_WT := mh_in6 (i := 7) (by decide +kernel) rfl
theorem tw_6_8 : (Jvm.Cond.code ({ cls := "MilkHillsModel", name := "warm", desc := "(II)I" } : Jvm.MethodName) prog_14_method_26_code (3 : Nat) (Option.some Jvm.ClassFile.FieldType.int)) ∈ mh_WT := mh_in6 (i := 8) (by decide +kernel) rfl
theorem tw_6_9 : (Jvm.Cond.methodLink "MilkHillsModel" (101 : Nat) ({ cls := "MilkHillsModel", name := "lawBy", desc := "(IIII)I" } : Jvm.MethodName)) ∈ mh_WT := mh_in6 (i := 9) (by decide +kernel) rfl
theorem tw_6_11 : (Jvm.Cond.instanceMethod ({ cls := "MilkHillsModel", name := "lawBy", desc := "(IIII)I" } : Jvm.MethodName)) ∈ mh_WT := mh_in6 (i := 11) (by decide +kernel) rfl
theorem tw_6_12 : (Jvm.Cond.code ({ cls := "MilkHillsModel", name := "lawBy", desc := "(IIII)I" } : Jvm.MethodName) prog_14_method_25_code (6 : Nat) (Option.some Jvm.ClassFile.FieldType.int)) ∈ mh_WT := mh_in6 (i := 12) (by decide +kernel) rfl
theorem tw_6_13 : (Jvm.Cond.methodLink "MilkHillsModel" (92 : Nat) ({ cls := "MilkHillsModel", name := "worked", desc := "(I)I" } : Jvm.MethodName)) ∈ mh_WT := mh_in6 (i := 13) (by decide +kernel) rfl
theorem tw_6_15 : (Jvm.Cond.instanceMethod ({ cls := "MilkHillsModel", name := "worked", desc := "(I)I" } : Jvm.MethodName)) ∈ mh_WT := mh_in6 (i := 15) (by decide +kernel) rfl
theorem tw_6_16 : (Jvm.Cond.code ({ cls := "MilkHillsModel", name := "worked", desc := "(I)I" } : Jvm.MethodName) prog_14_method_24_code (5 : Nat) (Option.some Jvm.ClassFile.FieldType.int)) ∈ mh_WT := mh_in6 (i := 16) (by decide +kernel) rfl
theorem tw_6_17 : (Jvm.Cond.methodLink "MilkHillsModel" (89 : Nat) ({ cls := "MilkHillsModel", name := "done", desc := "(III)I" } : Jvm.MethodName)) ∈ mh_WT := mh_in6 (i := 17) (by decide +kernel) rfl
theorem tw_6_18 : (Jvm.Cond.static ({ cls := "MilkHillsModel", name := "done", desc := "(III)I" } : Jvm.MethodName)) ∈ mh_WT := mh_in6 (i := 18) (by decide +kernel) rfl
theorem tw_6_19 : (Jvm.Cond.code ({ cls := "MilkHillsModel", name := "done", desc := "(III)I" } : Jvm.MethodName) prog_14_method_23_code (3 : Nat) (Option.some Jvm.ClassFile.FieldType.int)) ∈ mh_WT := mh_in6 (i := 19) (by decide +kernel) rfl
theorem tw_6_20 : (Jvm.Cond.methodLink "MilkHillsModel" (95 : Nat) ({ cls := "MilkHillsModel", name := "held", desc := "(III)I" } : Jvm.MethodName)) ∈ mh_WT := mh_in6 (i := 20) (by decide +kernel) rfl
theorem tw_6_21 : (Jvm.Cond.static ({ cls := "MilkHillsModel", name := "held", desc := "(III)I" } : Jvm.MethodName)) ∈ mh_WT := mh_in6 (i := 21) (by decide +kernel) rfl
theorem tw_6_22 : (Jvm.Cond.code ({ cls := "MilkHillsModel", name := "held", desc := "(III)I" } : Jvm.MethodName) prog_14_method_4_code (3 : Nat) (Option.some Jvm.ClassFile.FieldType.int)) ∈ mh_WT := mh_in6 (i := 22) (by decide +kernel) rfl
theorem tw_6_23 : (Jvm.Cond.methodLink "MilkHillsModel" (54 : Nat) ({ cls := "java/lang/Math", name := "min", desc := "(II)I" } : Jvm.MethodName)) ∈ mh_WT := mh_in6 (i := 23) (by decide +kernel) rfl
theorem tw_6_24 : (Jvm.Cond.methodLink "MilkHillsModel" (60 : Nat) ({ cls := "java/lang/Math", name := "max", desc := "(II)I" } : Jvm.MethodName)) ∈ mh_WT := mh_in6 (i := 24) (by decide +kernel) rfl
theorem tw_6_25 : (Jvm.Cond.methodLink "MilkHillsLaw" (26 : Nat) ({ cls := "MilkHillsModel", name := "carrier", desc := "(III)I" } : Jvm.MethodName)) ∈ mh_WT := mh_in6 (i := 25) (by decide +kernel) rfl
theorem tw_6_26 : (Jvm.Cond.instanceMethod ({ cls := "MilkHillsModel", name := "carrier", desc := "(III)I" } : Jvm.MethodName)) ∈ mh_WT := mh_in6 (i := 26) (by decide +kernel) rfl
theorem tw_6_27 : (Jvm.Cond.selects "MilkHillsModel" ({ cls := "MilkHillsModel", name := "carrier", desc := "(III)I" } : Jvm.MethodName) ({ cls := "MilkHillsModel", name := "carrier", desc := "(III)I" } : Jvm.MethodName)) ∈ mh_WT := mh_in6 (i := 27) (by decide +kernel) rfl
theorem tw_6_28 : (Jvm.Cond.code ({ cls := "MilkHillsModel", name := "carrier", desc := "(III)I" } : Jvm.MethodName) prog_14_method_32_code (5 : Nat) (Option.some Jvm.ClassFile.FieldType.int)) ∈ mh_WT := mh_in6 (i := 28) (by decide +kernel) rfl
theorem tw_6_29 : (Jvm.Cond.methodLink "MilkHillsModel" (125 : Nat) ({ cls := "MilkHillsModel", name := "isCarrier", desc := "(I)Z" } : Jvm.MethodName)) ∈ mh_WT := mh_in6 (i := 29) (by decide +kernel) rfl
theorem tw_6_30 : (Jvm.Cond.static ({ cls := "MilkHillsModel", name := "isCarrier", desc := "(I)Z" } : Jvm.MethodName)) ∈ mh_WT := mh_in6 (i := 30) (by decide +kernel) rfl
theorem tw_6_31 : (Jvm.Cond.code ({ cls := "MilkHillsModel", name := "isCarrier", desc := "(I)Z" } : Jvm.MethodName) prog_14_method_9_code (1 : Nat) (Option.some Jvm.ClassFile.FieldType.boolean)) ∈ mh_WT := mh_in6 (i := 31) (by decide +kernel) rfl
theorem tw_6_32 : (Jvm.Cond.constantLong "MilkHillsModel" (73 : Nat) (3 : Int64)) ∈ mh_WT := mh_in6 (i := 32) (by decide +kernel) rfl
theorem tw_6_33 : (Jvm.Cond.constantLong "MilkHillsModel" (128 : Nat) (9 : Int64)) ∈ mh_WT := mh_in6 (i := 33) (by decide +kernel) rfl
theorem tw_6_34 : (Jvm.Cond.constantLong "MilkHillsModel" (130 : Nat) (20 : Int64)) ∈ mh_WT := mh_in6 (i := 34) (by decide +kernel) rfl
theorem tw_6_35 : (Jvm.Cond.methodLink "MilkHillsModel" (132 : Nat) ({ cls := "MilkHillsModel", name := "pace", desc := "(I)I" } : Jvm.MethodName)) ∈ mh_WT := mh_in6 (i := 35) (by decide +kernel) rfl
theorem tw_6_37 : (Jvm.Cond.instanceMethod ({ cls := "MilkHillsModel", name := "pace", desc := "(I)I" } : Jvm.MethodName)) ∈ mh_WT := mh_in6 (i := 37) (by decide +kernel) rfl
theorem tw_6_38 : (Jvm.Cond.code ({ cls := "MilkHillsModel", name := "pace", desc := "(I)I" } : Jvm.MethodName) prog_14_method_14_code (2 : Nat) (Option.some Jvm.ClassFile.FieldType.int)) ∈ mh_WT := mh_in6 (i := 38) (by decide +kernel) rfl
theorem tw_6_39 : (Jvm.Cond.methodLink "MilkHillsLaw" (31 : Nat) ({ cls := "MilkHillsModel", name := "churn", desc := "(I)I" } : Jvm.MethodName)) ∈ mh_WT := mh_in6 (i := 39) (by decide +kernel) rfl
theorem tw_6_40 : (Jvm.Cond.instanceMethod ({ cls := "MilkHillsModel", name := "churn", desc := "(I)I" } : Jvm.MethodName)) ∈ mh_WT := mh_in6 (i := 40) (by decide +kernel) rfl
theorem tw_6_41 : (Jvm.Cond.selects "MilkHillsModel" ({ cls := "MilkHillsModel", name := "churn", desc := "(I)I" } : Jvm.MethodName) ({ cls := "MilkHillsModel", name := "churn", desc := "(I)I" } : Jvm.MethodName)) ∈ mh_WT := mh_in6 (i := 41) (by decide +kernel) rfl
theorem tw_6_42 : (Jvm.Cond.code ({ cls := "MilkHillsModel", name := "churn", desc := "(I)I" } : Jvm.MethodName) prog_14_method_34_code (3 : Nat) (Option.some Jvm.ClassFile.FieldType.int)) ∈ mh_WT := mh_in6 (i := 42) (by decide +kernel) rfl
theorem tw_6_43 : (Jvm.Cond.methodLink "MilkHillsModel" (137 : Nat) ({ cls := "MilkHillsModel", name := "isKind", desc := "(I)Z" } : Jvm.MethodName)) ∈ mh_WT := mh_in6 (i := 43) (by decide +kernel) rfl
theorem tw_6_44 : (Jvm.Cond.static ({ cls := "MilkHillsModel", name := "isKind", desc := "(I)Z" } : Jvm.MethodName)) ∈ mh_WT := mh_in6 (i := 44) (by decide +kernel) rfl
theorem tw_6_45 : (Jvm.Cond.code ({ cls := "MilkHillsModel", name := "isKind", desc := "(I)Z" } : Jvm.MethodName) prog_14_method_33_code (1 : Nat) (Option.some Jvm.ClassFile.FieldType.boolean)) ∈ mh_WT := mh_in6 (i := 45) (by decide +kernel) rfl
theorem tw_6_46 : (Jvm.Cond.constantLong "MilkHillsModel" (135 : Nat) (69 : Int64)) ∈ mh_WT := mh_in6 (i := 46) (by decide +kernel) rfl
theorem tw_6_47 : (Jvm.Cond.methodLink "MilkHillsModel" (140 : Nat) ({ cls := "MilkHillsModel", name := "sets", desc := "(III)V" } : Jvm.MethodName)) ∈ mh_WT := mh_in6 (i := 47) (by decide +kernel) rfl
theorem tw_6_49 : (Jvm.Cond.instanceMethod ({ cls := "MilkHillsModel", name := "sets", desc := "(III)V" } : Jvm.MethodName)) ∈ mh_WT := mh_in6 (i := 49) (by decide +kernel) rfl
theorem tw_6_50 : (Jvm.Cond.code ({ cls := "MilkHillsModel", name := "sets", desc := "(III)V" } : Jvm.MethodName) prog_14_method_12_code (4 : Nat) (Option.none : Option Jvm.ClassFile.FieldType)) ∈ mh_WT := mh_in6 (i := 50) (by decide +kernel) rfl
theorem tw_6_51 : (Jvm.Cond.methodLink "MilkHillsModel" (144 : Nat) ({ cls := "MilkHillsModel", name := "anew", desc := "(I)V" } : Jvm.MethodName)) ∈ mh_WT := mh_in6 (i := 51) (by decide +kernel) rfl
theorem tw_6_53 : (Jvm.Cond.instanceMethod ({ cls := "MilkHillsModel", name := "anew", desc := "(I)V" } : Jvm.MethodName)) ∈ mh_WT := mh_in6 (i := 53) (by decide +kernel) rfl
theorem tw_6_54 : (Jvm.Cond.code ({ cls := "MilkHillsModel", name := "anew", desc := "(I)V" } : Jvm.MethodName) prog_14_method_35_code (3 : Nat) (Option.none : Option Jvm.ClassFile.FieldType)) ∈ mh_WT := mh_in6 (i := 54) (by decide +kernel) rfl
theorem tw_6_55 : (Jvm.Cond.methodLink "MilkHillsLaw" (35 : Nat) ({ cls := "MilkHillsModel", name := "ofChurn", desc := "(II)I" } : Jvm.MethodName)) ∈ mh_WT := mh_in6 (i := 55) (by decide +kernel) rfl
theorem tw_6_56 : (Jvm.Cond.instanceMethod ({ cls := "MilkHillsModel", name := "ofChurn", desc := "(II)I" } : Jvm.MethodName)) ∈ mh_WT := mh_in6 (i := 56) (by decide +kernel) rfl
theorem tw_6_57 : (Jvm.Cond.selects "MilkHillsModel" ({ cls := "MilkHillsModel", name := "ofChurn", desc := "(II)I" } : Jvm.MethodName) ({ cls := "MilkHillsModel", name := "ofChurn", desc := "(II)I" } : Jvm.MethodName)) ∈ mh_WT := mh_in6 (i := 57) (by decide +kernel) rfl
theorem tw_6_58 : (Jvm.Cond.code ({ cls := "MilkHillsModel", name := "ofChurn", desc := "(II)I" } : Jvm.MethodName) prog_14_method_36_code (3 : Nat) (Option.some Jvm.ClassFile.FieldType.int)) ∈ mh_WT := mh_in6 (i := 58) (by decide +kernel) rfl
theorem tw_6_59 : (Jvm.Cond.methodLink "MilkHillsModel" (148 : Nat) ({ cls := "MilkHillsModel", name := "isChurn", desc := "(I)Z" } : Jvm.MethodName)) ∈ mh_WT := mh_in6 (i := 59) (by decide +kernel) rfl
theorem tw_6_61 : (Jvm.Cond.instanceMethod ({ cls := "MilkHillsModel", name := "isChurn", desc := "(I)Z" } : Jvm.MethodName)) ∈ mh_WT := mh_in6 (i := 61) (by decide +kernel) rfl
theorem tw_6_62 : (Jvm.Cond.code ({ cls := "MilkHillsModel", name := "isChurn", desc := "(I)Z" } : Jvm.MethodName) prog_14_method_10_code (2 : Nat) (Option.some Jvm.ClassFile.FieldType.boolean)) ∈ mh_WT := mh_in6 (i := 62) (by decide +kernel) rfl
theorem tw_6_63 : (Jvm.Cond.methodLink "MilkHillsModel" (151 : Nat) ({ cls := "MilkHillsModel", name := "told", desc := "(II)I" } : Jvm.MethodName)) ∈ mh_WT := mh_in6 (i := 63) (by decide +kernel) rfl
theorem tw_6_65 : (Jvm.Cond.instanceMethod ({ cls := "MilkHillsModel", name := "told", desc := "(II)I" } : Jvm.MethodName)) ∈ mh_WT := mh_in6 (i := 65) (by decide +kernel) rfl
theorem tw_6_66 : (Jvm.Cond.code ({ cls := "MilkHillsModel", name := "told", desc := "(II)I" } : Jvm.MethodName) prog_14_method_37_code (4 : Nat) (Option.some Jvm.ClassFile.FieldType.int)) ∈ mh_WT := mh_in6 (i := 66) (by decide +kernel) rfl
theorem tw_6_67 : (Jvm.Cond.methodLink "MilkHillsModel" (154 : Nat) ({ cls := "MilkHillsModel", name := "stateOf", desc := "(I)I" } : Jvm.MethodName)) ∈ mh_WT := mh_in6 (i := 67) (by decide +kernel) rfl
theorem tw_6_69 : (Jvm.Cond.instanceMethod ({ cls := "MilkHillsModel", name := "stateOf", desc := "(I)I" } : Jvm.MethodName)) ∈ mh_WT := mh_in6 (i := 69) (by decide +kernel) rfl
theorem tw_6_70 : (Jvm.Cond.code ({ cls := "MilkHillsModel", name := "stateOf", desc := "(I)I" } : Jvm.MethodName) prog_14_method_22_code (2 : Nat) (Option.some Jvm.ClassFile.FieldType.int)) ∈ mh_WT := mh_in6 (i := 70) (by decide +kernel) rfl
theorem tw_6_71 : (Jvm.Cond.methodLink "MilkHillsModel" (85 : Nat) ({ cls := "MilkHillsModel", name := "stateBy", desc := "(III)I" } : Jvm.MethodName)) ∈ mh_WT := mh_in6 (i := 71) (by decide +kernel) rfl
theorem tw_6_73 : (Jvm.Cond.instanceMethod ({ cls := "MilkHillsModel", name := "stateBy", desc := "(III)I" } : Jvm.MethodName)) ∈ mh_WT := mh_in6 (i := 73) (by decide +kernel) rfl
theorem tw_6_74 : (Jvm.Cond.code ({ cls := "MilkHillsModel", name := "stateBy", desc := "(III)I" } : Jvm.MethodName) prog_14_method_21_code (4 : Nat) (Option.some Jvm.ClassFile.FieldType.int)) ∈ mh_WT := mh_in6 (i := 74) (by decide +kernel) rfl
theorem tw_6_75 : (Jvm.Cond.methodLink "MilkHillsModel" (82 : Nat) ({ cls := "MilkHillsModel", name := "turns", desc := "(II)I" } : Jvm.MethodName)) ∈ mh_WT := mh_in6 (i := 75) (by decide +kernel) rfl
theorem tw_6_76 : (Jvm.Cond.static ({ cls := "MilkHillsModel", name := "turns", desc := "(II)I" } : Jvm.MethodName)) ∈ mh_WT := mh_in6 (i := 76) (by decide +kernel) rfl
theorem tw_6_77 : (Jvm.Cond.code ({ cls := "MilkHillsModel", name := "turns", desc := "(II)I" } : Jvm.MethodName) prog_14_method_20_code (2 : Nat) (Option.some Jvm.ClassFile.FieldType.int)) ∈ mh_WT := mh_in6 (i := 77) (by decide +kernel) rfl
theorem tw_6_78 : (Jvm.Cond.methodLink "MilkHillsLaw" (39 : Nat) ({ cls := "MilkHillsModel", name := "become", desc := "(II)I" } : Jvm.MethodName)) ∈ mh_WT := mh_in6 (i := 78) (by decide +kernel) rfl
theorem tw_6_79 : (Jvm.Cond.instanceMethod ({ cls := "MilkHillsModel", name := "become", desc := "(II)I" } : Jvm.MethodName)) ∈ mh_WT := mh_in6 (i := 79) (by decide +kernel) rfl
theorem tw_6_80 : (Jvm.Cond.selects "MilkHillsModel" ({ cls := "MilkHillsModel", name := "become", desc := "(II)I" } : Jvm.MethodName) ({ cls := "MilkHillsModel", name := "become", desc := "(II)I" } : Jvm.MethodName)) ∈ mh_WT := mh_in6 (i := 80) (by decide +kernel) rfl
theorem tw_6_81 : (Jvm.Cond.code ({ cls := "MilkHillsModel", name := "become", desc := "(II)I" } : Jvm.MethodName) prog_14_method_38_code (4 : Nat) (Option.some Jvm.ClassFile.FieldType.int)) ∈ mh_WT := mh_in6 (i := 81) (by decide +kernel) rfl
theorem tw_6_82 : (Jvm.Cond.methodLink "MilkHillsLaw" (43 : Nat) ({ cls := "MilkHillsModel", name := "as", desc := "(II)I" } : Jvm.MethodName)) ∈ mh_WT := mh_in6 (i := 82) (by decide +kernel) rfl
theorem tw_6_83 : (Jvm.Cond.instanceMethod ({ cls := "MilkHillsModel", name := "as", desc := "(II)I" } : Jvm.MethodName)) ∈ mh_WT := mh_in6 (i := 83) (by decide +kernel) rfl
theorem tw_6_84 : (Jvm.Cond.selects "MilkHillsModel" ({ cls := "MilkHillsModel", name := "as", desc := "(II)I" } : Jvm.MethodName) ({ cls := "MilkHillsModel", name := "as", desc := "(II)I" } : Jvm.MethodName)) ∈ mh_WT := mh_in6 (i := 84) (by decide +kernel) rfl
theorem tw_6_85 : (Jvm.Cond.code ({ cls := "MilkHillsModel", name := "as", desc := "(II)I" } : Jvm.MethodName) prog_14_method_39_code (3 : Nat) (Option.some Jvm.ClassFile.FieldType.int)) ∈ mh_WT := mh_in6 (i := 85) (by decide +kernel) rfl
theorem tw_6_86 : (Jvm.Cond.constantLong "MilkHillsModel" (157 : Nat) (6 : Int64)) ∈ mh_WT := mh_in6 (i := 86) (by decide +kernel) rfl
theorem tw_6_87 : (Jvm.Cond.methodLink "MilkHillsModel" (159 : Nat) ({ cls := "MilkHillsModel", name := "isUnder", desc := "(II)Z" } : Jvm.MethodName)) ∈ mh_WT := mh_in6 (i := 87) (by decide +kernel) rfl
theorem tw_6_88 : (Jvm.Cond.static ({ cls := "MilkHillsModel", name := "isUnder", desc := "(II)Z" } : Jvm.MethodName)) ∈ mh_WT := mh_in6 (i := 88) (by decide +kernel) rfl
theorem tw_6_89 : (Jvm.Cond.code ({ cls := "MilkHillsModel", name := "isUnder", desc := "(II)Z" } : Jvm.MethodName) prog_14_method_17_code (2 : Nat) (Option.some Jvm.ClassFile.FieldType.boolean)) ∈ mh_WT := mh_in6 (i := 89) (by decide +kernel) rfl
theorem tw_6_90 : (Jvm.Cond.methodLink "MilkHillsModel" (75 : Nat) ({ cls := "MilkHillsModel", name := "aboveOf", desc := "(I)I" } : Jvm.MethodName)) ∈ mh_WT := mh_in6 (i := 90) (by decide +kernel) rfl
theorem tw_6_91 : (Jvm.Cond.static ({ cls := "MilkHillsModel", name := "aboveOf", desc := "(I)I" } : Jvm.MethodName)) ∈ mh_WT := mh_in6 (i := 91) (by decide +kernel) rfl
theorem tw_6_92 : (Jvm.Cond.code ({ cls := "MilkHillsModel", name := "aboveOf", desc := "(I)I" } : Jvm.MethodName) prog_14_method_16_code (1 : Nat) (Option.some Jvm.ClassFile.FieldType.int)) ∈ mh_WT := mh_in6 (i := 92) (by decide +kernel) rfl
theorem tw_6_93 : (Jvm.Cond.methodLink "MilkHillsLaw" (47 : Nat) ({ cls := "MilkHillsModel", name := "go", desc := "(II)I" } : Jvm.MethodName)) ∈ mh_WT := mh_in6 (i := 93) (by decide +kernel) rfl
theorem tw_6_94 : (Jvm.Cond.instanceMethod ({ cls := "MilkHillsModel", name := "go", desc := "(II)I" } : Jvm.MethodName)) ∈ mh_WT := mh_in6 (i := 94) (by decide +kernel) rfl
theorem tw_6_95 : (Jvm.Cond.selects "MilkHillsModel" ({ cls := "MilkHillsModel", name := "go", desc := "(II)I" } : Jvm.MethodName) ({ cls := "MilkHillsModel", name := "go", desc := "(II)I" } : Jvm.MethodName)) ∈ mh_WT := mh_in6 (i := 95) (by decide +kernel) rfl
theorem tw_6_96 : (Jvm.Cond.code ({ cls := "MilkHillsModel", name := "go", desc := "(II)I" } : Jvm.MethodName) prog_14_method_42_code (3 : Nat) (Option.some Jvm.ClassFile.FieldType.int)) ∈ mh_WT := mh_in6 (i := 96) (by decide +kernel) rfl
theorem tw_6_97 : (Jvm.Cond.methodLink "MilkHillsModel" (163 : Nat) ({ cls := "MilkHillsModel", name := "stands", desc := "(I)Z" } : Jvm.MethodName)) ∈ mh_WT := mh_in6 (i := 97) (by decide +kernel) rfl
theorem tw_6_99 : (Jvm.Cond.instanceMethod ({ cls := "MilkHillsModel", name := "stands", desc := "(I)Z" } : Jvm.MethodName)) ∈ mh_WT := mh_in6 (i := 99) (by decide +kernel) rfl
theorem tw_6_100 : (Jvm.Cond.code ({ cls := "MilkHillsModel", name := "stands", desc := "(I)Z" } : Jvm.MethodName) prog_14_method_40_code (2 : Nat) (Option.some Jvm.ClassFile.FieldType.boolean)) ∈ mh_WT := mh_in6 (i := 100) (by decide +kernel) rfl
theorem tw_6_101 : (Jvm.Cond.methodLink "MilkHillsModel" (166 : Nat) ({ cls := "MilkHillsModel", name := "leaves", desc := "(II)V" } : Jvm.MethodName)) ∈ mh_WT := mh_in6 (i := 101) (by decide +kernel) rfl
theorem tw_6_103 : (Jvm.Cond.instanceMethod ({ cls := "MilkHillsModel", name := "leaves", desc := "(II)V" } : Jvm.MethodName)) ∈ mh_WT := mh_in6 (i := 103) (by decide +kernel) rfl
theorem tw_6_104 : (Jvm.Cond.code ({ cls := "MilkHillsModel", name := "leaves", desc := "(II)V" } : Jvm.MethodName) prog_14_method_41_code (3 : Nat) (Option.none : Option Jvm.ClassFile.FieldType)) ∈ mh_WT := mh_in6 (i := 104) (by decide +kernel) rfl
theorem tw_6_105 : (Jvm.Cond.methodLink "MilkHillsLaw" (51 : Nat) ({ cls := "MilkHillsModel", name := "brook", desc := "(I)I" } : Jvm.MethodName)) ∈ mh_WT := mh_in6 (i := 105) (by decide +kernel) rfl
theorem tw_6_106 : (Jvm.Cond.instanceMethod ({ cls := "MilkHillsModel", name := "brook", desc := "(I)I" } : Jvm.MethodName)) ∈ mh_WT := mh_in6 (i := 106) (by decide +kernel) rfl
theorem tw_6_107 : (Jvm.Cond.selects "MilkHillsModel" ({ cls := "MilkHillsModel", name := "brook", desc := "(I)I" } : Jvm.MethodName) ({ cls := "MilkHillsModel", name := "brook", desc := "(I)I" } : Jvm.MethodName)) ∈ mh_WT := mh_in6 (i := 107) (by decide +kernel) rfl
theorem tw_6_108 : (Jvm.Cond.code ({ cls := "MilkHillsModel", name := "brook", desc := "(I)I" } : Jvm.MethodName) prog_14_method_43_code (3 : Nat) (Option.some Jvm.ClassFile.FieldType.int)) ∈ mh_WT := mh_in6 (i := 108) (by decide +kernel) rfl
theorem tw_6_109 : (Jvm.Cond.methodLink "MilkHillsLaw" (55 : Nat) ({ cls := "MilkHillsModel", name := "rest", desc := "(I)I" } : Jvm.MethodName)) ∈ mh_WT := mh_in6 (i := 109) (by decide +kernel) rfl
theorem tw_6_110 : (Jvm.Cond.instanceMethod ({ cls := "MilkHillsModel", name := "rest", desc := "(I)I" } : Jvm.MethodName)) ∈ mh_WT := mh_in6 (i := 110) (by decide +kernel) rfl
theorem tw_6_111 : (Jvm.Cond.selects "MilkHillsModel" ({ cls := "MilkHillsModel", name := "rest", desc := "(I)I" } : Jvm.MethodName) ({ cls := "MilkHillsModel", name := "rest", desc := "(I)I" } : Jvm.MethodName)) ∈ mh_WT := mh_in6 (i := 111) (by decide +kernel) rfl
theorem tw_6_112 : (Jvm.Cond.code ({ cls := "MilkHillsModel", name := "rest", desc := "(I)I" } : Jvm.MethodName) prog_14_method_44_code (2 : Nat) (Option.some Jvm.ClassFile.FieldType.int)) ∈ mh_WT := mh_in6 (i := 112) (by decide +kernel) rfl
theorem tw_6_113 : (Jvm.Cond.methodLink "MilkHillsLaw" (59 : Nat) ({ cls := "MilkHillsModel", name := "giveUp", desc := "(I)I" } : Jvm.MethodName)) ∈ mh_WT := mh_in6 (i := 113) (by decide +kernel) rfl
theorem tw_6_114 : (Jvm.Cond.instanceMethod ({ cls := "MilkHillsModel", name := "giveUp", desc := "(I)I" } : Jvm.MethodName)) ∈ mh_WT := mh_in6 (i := 114) (by decide +kernel) rfl
theorem tw_6_115 : (Jvm.Cond.selects "MilkHillsModel" ({ cls := "MilkHillsModel", name := "giveUp", desc := "(I)I" } : Jvm.MethodName) ({ cls := "MilkHillsModel", name := "giveUp", desc := "(I)I" } : Jvm.MethodName)) ∈ mh_WT := mh_in6 (i := 115) (by decide +kernel) rfl
theorem tw_6_116 : (Jvm.Cond.code ({ cls := "MilkHillsModel", name := "giveUp", desc := "(I)I" } : Jvm.MethodName) prog_14_method_47_code (3 : Nat) (Option.some Jvm.ClassFile.FieldType.int)) ∈ mh_WT := mh_in6 (i := 116) (by decide +kernel) rfl
theorem tw_6_117 : (Jvm.Cond.methodLink "MilkHillsModel" (172 : Nat) ({ cls := "MilkHillsModel", name := "cheese", desc := "(II)I" } : Jvm.MethodName)) ∈ mh_WT := mh_in6 (i := 117) (by decide +kernel) rfl
theorem tw_6_119 : (Jvm.Cond.instanceMethod ({ cls := "MilkHillsModel", name := "cheese", desc := "(II)I" } : Jvm.MethodName)) ∈ mh_WT := mh_in6 (i := 119) (by decide +kernel) rfl
theorem tw_6_120 : (Jvm.Cond.code ({ cls := "MilkHillsModel", name := "cheese", desc := "(II)I" } : Jvm.MethodName) prog_14_method_46_code (3 : Nat) (Option.some Jvm.ClassFile.FieldType.int)) ∈ mh_WT := mh_in6 (i := 120) (by decide +kernel) rfl
theorem tw_6_121 : (Jvm.Cond.methodLink "MilkHillsModel" (175 : Nat) ({ cls := "MilkHillsModel", name := "takes", desc := "(I)V" } : Jvm.MethodName)) ∈ mh_WT := mh_in6 (i := 121) (by decide +kernel) rfl
theorem tw_6_123 : (Jvm.Cond.instanceMethod ({ cls := "MilkHillsModel", name := "takes", desc := "(I)V" } : Jvm.MethodName)) ∈ mh_WT := mh_in6 (i := 123) (by decide +kernel) rfl
theorem tw_6_124 : (Jvm.Cond.code ({ cls := "MilkHillsModel", name := "takes", desc := "(I)V" } : Jvm.MethodName) prog_14_method_45_code (2 : Nat) (Option.none : Option Jvm.ClassFile.FieldType)) ∈ mh_WT := mh_in6 (i := 124) (by decide +kernel) rfl
theorem tw_6_125 : (Jvm.Cond.constant "MilkHillsModel" (170 : Nat) (-99999 : Int32)) ∈ mh_WT := mh_in6 (i := 125) (by decide +kernel) rfl
theorem tw_6_126 : (Jvm.Cond.constant "MilkHillsModel" (171 : Nat) (99999 : Int32)) ∈ mh_WT := mh_in6 (i := 126) (by decide +kernel) rfl
theorem tw_6_127 : (Jvm.Cond.methodLink "MilkHillsLaw" (63 : Nat) ({ cls := "MilkHillsModel", name := "refill", desc := "(I)I" } : Jvm.MethodName)) ∈ mh_WT := mh_in6 (i := 127) (by decide +kernel) rfl
theorem tw_6_128 : (Jvm.Cond.instanceMethod ({ cls := "MilkHillsModel", name := "refill", desc := "(I)I" } : Jvm.MethodName)) ∈ mh_WT := mh_in6 (i := 128) (by decide +kernel) rfl
theorem tw_6_129 : (Jvm.Cond.selects "MilkHillsModel" ({ cls := "MilkHillsModel", name := "refill", desc := "(I)I" } : Jvm.MethodName) ({ cls := "MilkHillsModel", name := "refill", desc := "(I)I" } : Jvm.MethodName)) ∈ mh_WT := mh_in6 (i := 129) (by decide +kernel) rfl
theorem tw_6_130 : (Jvm.Cond.code ({ cls := "MilkHillsModel", name := "refill", desc := "(I)I" } : Jvm.MethodName) prog_14_method_48_code (3 : Nat) (Option.some Jvm.ClassFile.FieldType.int)) ∈ mh_WT := mh_in6 (i := 130) (by decide +kernel) rfl
theorem tw_6_131 : (Jvm.Cond.methodLink "MilkHillsLaw" (70 : Nat) ({ cls := "MilkHillsModel", name := "feed", desc := "(JI)I" } : Jvm.MethodName)) ∈ mh_WT := mh_in6 (i := 131) (by decide +kernel) rfl
theorem tw_6_132 : (Jvm.Cond.instanceMethod ({ cls := "MilkHillsModel", name := "feed", desc := "(JI)I" } : Jvm.MethodName)) ∈ mh_WT := mh_in6 (i := 132) (by decide +kernel) rfl
theorem tw_6_133 : (Jvm.Cond.selects "MilkHillsModel" ({ cls := "MilkHillsModel", name := "feed", desc := "(JI)I" } : Jvm.MethodName) ({ cls := "MilkHillsModel", name := "feed", desc := "(JI)I" } : Jvm.MethodName)) ∈ mh_WT := mh_in6 (i := 133) (by decide +kernel) rfl
theorem tw_6_134 : (Jvm.Cond.code ({ cls := "MilkHillsModel", name := "feed", desc := "(JI)I" } : Jvm.MethodName) prog_14_method_49_code (5 : Nat) (Option.some Jvm.ClassFile.FieldType.int)) ∈ mh_WT := mh_in6 (i := 134) (by decide +kernel) rfl
theorem tw_6_135 : (Jvm.Cond.constantLong "MilkHillsModel" (178 : Nat) (255 : Int64)) ∈ mh_WT := mh_in6 (i := 135) (by decide +kernel) rfl
theorem tw_6_136 : (Jvm.Cond.methodLink "MilkHillsLaw" (74 : Nat) ({ cls := "MilkHillsModel", name := "text", desc := "(I)I" } : Jvm.MethodName)) ∈ mh_WT := mh_in6 (i := 136) (by decide +kernel) rfl
theorem tw_6_137 : (Jvm.Cond.instanceMethod ({ cls := "MilkHillsModel", name := "text", desc := "(I)I" } : Jvm.MethodName)) ∈ mh_WT := mh_in6 (i := 137) (by decide +kernel) rfl
theorem tw_6_138 : (Jvm.Cond.selects "MilkHillsModel" ({ cls := "MilkHillsModel", name := "text", desc := "(I)I" } : Jvm.MethodName) ({ cls := "MilkHillsModel", name := "text", desc := "(I)I" } : Jvm.MethodName)) ∈ mh_WT := mh_in6 (i := 138) (by decide +kernel) rfl
theorem tw_6_139 : (Jvm.Cond.code ({ cls := "MilkHillsModel", name := "text", desc := "(I)I" } : Jvm.MethodName) prog_14_method_63_code (3 : Nat) (Option.some Jvm.ClassFile.FieldType.int)) ∈ mh_WT := mh_in6 (i := 139) (by decide +kernel) rfl
theorem tw_6_140 : (Jvm.Cond.methodLink "MilkHillsModel" (224 : Nat) ({ cls := "MilkHillsModel", name := "t", desc := "()V" } : Jvm.MethodName)) ∈ mh_WT := mh_in6 (i := 140) (by decide +kernel) rfl
theorem tw_6_142 : (Jvm.Cond.instanceMethod ({ cls := "MilkHillsModel", name := "t", desc := "()V" } : Jvm.MethodName)) ∈ mh_WT := mh_in6 (i := 142) (by decide +kernel) rfl
theorem tw_6_143 : (Jvm.Cond.code ({ cls := "MilkHillsModel", name := "t", desc := "()V" } : Jvm.MethodName) prog_14_method_62_code (1 : Nat) (Option.none : Option Jvm.ClassFile.FieldType)) ∈ mh_WT := mh_in6 (i := 143) (by decide +kernel) rfl
theorem tw_6_144 : (Jvm.Cond.methodLink "MilkHillsModel" (239 : Nat) ({ cls := "MilkHillsModel", name := "a", desc := "()V" } : Jvm.MethodName)) ∈ mh_WT := mh_in6 (i := 144) (by decide +kernel) rfl
theorem tw_6_146 : (Jvm.Cond.instanceMethod ({ cls := "MilkHillsModel", name := "a", desc := "()V" } : Jvm.MethodName)) ∈ mh_WT := mh_in6 (i := 146) (by decide +kernel) rfl
theorem tw_6_147 : (Jvm.Cond.code ({ cls := "MilkHillsModel", name := "a", desc := "()V" } : Jvm.MethodName) prog_14_method_61_code (1 : Nat) (Option.none : Option Jvm.ClassFile.FieldType)) ∈ mh_WT := mh_in6 (i := 147) (by decide +kernel) rfl
theorem tw_6_148 : (Jvm.Cond.methodLink "MilkHillsModel" (236 : Nat) ({ cls := "MilkHillsModel", name := "b", desc := "()V" } : Jvm.MethodName)) ∈ mh_WT := mh_in6 (i := 148) (by decide +kernel) rfl
theorem tw_6_150 : (Jvm.Cond.instanceMethod ({ cls := "MilkHillsModel", name := "b", desc := "()V" } : Jvm.MethodName)) ∈ mh_WT := mh_in6 (i := 150) (by decide +kernel) rfl
theorem tw_6_151 : (Jvm.Cond.code ({ cls := "MilkHillsModel", name := "b", desc := "()V" } : Jvm.MethodName) prog_14_method_60_code (2 : Nat) (Option.none : Option Jvm.ClassFile.FieldType)) ∈ mh_WT := mh_in6 (i := 151) (by decide +kernel) rfl
theorem tw_6_152 : (Jvm.Cond.methodLink "MilkHillsModel" (233 : Nat) ({ cls := "MilkHillsModel", name := "sum", desc := "()V" } : Jvm.MethodName)) ∈ mh_WT := mh_in6 (i := 152) (by decide +kernel) rfl
theorem tw_6_154 : (Jvm.Cond.instanceMethod ({ cls := "MilkHillsModel", name := "sum", desc := "()V" } : Jvm.MethodName)) ∈ mh_WT := mh_in6 (i := 154) (by decide +kernel) rfl
theorem tw_6_155 : (Jvm.Cond.code ({ cls := "MilkHillsModel", name := "sum", desc := "()V" } : Jvm.MethodName) prog_14_method_59_code (2 : Nat) (Option.none : Option Jvm.ClassFile.FieldType)) ∈ mh_WT := mh_in6 (i := 155) (by decide +kernel) rfl
theorem tw_6_156 : (Jvm.Cond.methodLink "MilkHillsModel" (230 : Nat) ({ cls := "MilkHillsModel", name := "p", desc := "()V" } : Jvm.MethodName)) ∈ mh_WT := mh_in6 (i := 156) (by decide +kernel) rfl
theorem tw_6_158 : (Jvm.Cond.instanceMethod ({ cls := "MilkHillsModel", name := "p", desc := "()V" } : Jvm.MethodName)) ∈ mh_WT := mh_in6 (i := 158) (by decide +kernel) rfl
theorem tw_6_159 : (Jvm.Cond.code ({ cls := "MilkHillsModel", name := "p", desc := "()V" } : Jvm.MethodName) prog_14_method_58_code (2 : Nat) (Option.none : Option Jvm.ClassFile.FieldType)) ∈ mh_WT := mh_in6 (i := 159) (by decide +kernel) rfl
theorem tw_6_160 : (Jvm.Cond.methodLink "MilkHillsModel" (221 : Nat) ({ cls := "MilkHillsModel", name := "q", desc := "()V" } : Jvm.MethodName)) ∈ mh_WT := mh_in6 (i := 160) (by decide +kernel) rfl
theorem tw_6_162 : (Jvm.Cond.instanceMethod ({ cls := "MilkHillsModel", name := "q", desc := "()V" } : Jvm.MethodName)) ∈ mh_WT := mh_in6 (i := 162) (by decide +kernel) rfl
theorem tw_6_163 : (Jvm.Cond.code ({ cls := "MilkHillsModel", name := "q", desc := "()V" } : Jvm.MethodName) prog_14_method_57_code (2 : Nat) (Option.none : Option Jvm.ClassFile.FieldType)) ∈ mh_WT := mh_in6 (i := 163) (by decide +kernel) rfl
theorem tw_6_164 : (Jvm.Cond.methodLink "MilkHillsModel" (212 : Nat) ({ cls := "MilkHillsModel", name := "nameHere", desc := "()I" } : Jvm.MethodName)) ∈ mh_WT := mh_in6 (i := 164) (by decide +kernel) rfl
theorem tw_6_166 : (Jvm.Cond.instanceMethod ({ cls := "MilkHillsModel", name := "nameHere", desc := "()I" } : Jvm.MethodName)) ∈ mh_WT := mh_in6 (i := 166) (by decide +kernel) rfl
theorem tw_6_167 : (Jvm.Cond.code ({ cls := "MilkHillsModel", name := "nameHere", desc := "()I" } : Jvm.MethodName) prog_14_method_54_code (2 : Nat) (Option.some Jvm.ClassFile.FieldType.int)) ∈ mh_WT := mh_in6 (i := 167) (by decide +kernel) rfl
theorem tw_6_168 : (Jvm.Cond.methodLink "MilkHillsModel" (188 : Nat) ({ cls := "MilkHillsModel", name := "here", desc := "()I" } : Jvm.MethodName)) ∈ mh_WT := mh_in6 (i := 168) (by decide +kernel) rfl
theorem tw_6_170 : (Jvm.Cond.instanceMethod ({ cls := "MilkHillsModel", name := "here", desc := "()I" } : Jvm.MethodName)) ∈ mh_WT := mh_in6 (i := 170) (by decide +kernel) rfl
theorem tw_6_171 : (Jvm.Cond.code ({ cls := "MilkHillsModel", name := "here", desc := "()I" } : Jvm.MethodName) prog_14_method_50_code (1 : Nat) (Option.some Jvm.ClassFile.FieldType.int)) ∈ mh_WT := mh_in6 (i := 171) (by decide +kernel) rfl
theorem tw_6_172 : (Jvm.Cond.methodLink "MilkHillsModel" (202 : Nat) ({ cls := "MilkHillsModel", name := "isDigit", desc := "()Z" } : Jvm.MethodName)) ∈ mh_WT := mh_in6 (i := 172) (by decide +kernel) rfl
theorem tw_6_174 : (Jvm.Cond.instanceMethod ({ cls := "MilkHillsModel", name := "isDigit", desc := "()Z" } : Jvm.MethodName)) ∈ mh_WT := mh_in6 (i := 174) (by decide +kernel) rfl
theorem tw_6_175 : (Jvm.Cond.code ({ cls := "MilkHillsModel", name := "isDigit", desc := "()Z" } : Jvm.MethodName) prog_14_method_51_code (1 : Nat) (Option.some Jvm.ClassFile.FieldType.boolean)) ∈ mh_WT := mh_in6 (i := 175) (by decide +kernel) rfl
theorem tw_6_176 : (Jvm.Cond.constantLong "MilkHillsModel" (192 : Nat) (48 : Int64)) ∈ mh_WT := mh_in6 (i := 176) (by decide +kernel) rfl
theorem tw_6_177 : (Jvm.Cond.constantLong "MilkHillsModel" (194 : Nat) (57 : Int64)) ∈ mh_WT := mh_in6 (i := 177) (by decide +kernel) rfl
theorem tw_6_178 : (Jvm.Cond.methodLink "MilkHillsModel" (215 : Nat) ({ cls := "MilkHillsModel", name := "numberRead", desc := "()V" } : Jvm.MethodName)) ∈ mh_WT := mh_in6 (i := 178) (by decide +kernel) rfl
theorem tw_6_180 : (Jvm.Cond.instanceMethod ({ cls := "MilkHillsModel", name := "numberRead", desc := "()V" } : Jvm.MethodName)) ∈ mh_WT := mh_in6 (i := 180) (by decide +kernel) rfl
theorem tw_6_181 : (Jvm.Cond.code ({ cls := "MilkHillsModel", name := "numberRead", desc := "()V" } : Jvm.MethodName) prog_14_method_55_code (3 : Nat) (Option.none : Option Jvm.ClassFile.FieldType)) ∈ mh_WT := mh_in6 (i := 181) (by decide +kernel) rfl
theorem tw_6_182 : (Jvm.Cond.methodLink "MilkHillsModel" (206 : Nat) ({ cls := "MilkHillsModel", name := "puts", desc := "(I)V" } : Jvm.MethodName)) ∈ mh_WT := mh_in6 (i := 182) (by decide +kernel) rfl
theorem tw_6_184 : (Jvm.Cond.instanceMethod ({ cls := "MilkHillsModel", name := "puts", desc := "(I)V" } : Jvm.MethodName)) ∈ mh_WT := mh_in6 (i := 184) (by decide +kernel) rfl
theorem tw_6_185 : (Jvm.Cond.code ({ cls := "MilkHillsModel", name := "puts", desc := "(I)V" } : Jvm.MethodName) prog_14_method_52_code (2 : Nat) (Option.none : Option Jvm.ClassFile.FieldType)) ∈ mh_WT := mh_in6 (i := 185) (by decide +kernel) rfl
theorem tw_6_186 : (Jvm.Cond.methodLink "MilkHillsModel" (218 : Nat) ({ cls := "MilkHillsModel", name := "opens", desc := "()V" } : Jvm.MethodName)) ∈ mh_WT := mh_in6 (i := 186) (by decide +kernel) rfl
theorem tw_6_188 : (Jvm.Cond.instanceMethod ({ cls := "MilkHillsModel", name := "opens", desc := "()V" } : Jvm.MethodName)) ∈ mh_WT := mh_in6 (i := 188) (by decide +kernel) rfl
theorem tw_6_189 : (Jvm.Cond.code ({ cls := "MilkHillsModel", name := "opens", desc := "()V" } : Jvm.MethodName) prog_14_method_56_code (1 : Nat) (Option.none : Option Jvm.ClassFile.FieldType)) ∈ mh_WT := mh_in6 (i := 189) (by decide +kernel) rfl
theorem tw_6_190 : (Jvm.Cond.methodLink "MilkHillsModel" (227 : Nat) ({ cls := "MilkHillsModel", name := "takes", desc := "(C)Z" } : Jvm.MethodName)) ∈ mh_WT := mh_in6 (i := 190) (by decide +kernel) rfl
theorem tw_6_192 : (Jvm.Cond.instanceMethod ({ cls := "MilkHillsModel", name := "takes", desc := "(C)Z" } : Jvm.MethodName)) ∈ mh_WT := mh_in6 (i := 192) (by decide +kernel) rfl
theorem tw_6_193 : (Jvm.Cond.code ({ cls := "MilkHillsModel", name := "takes", desc := "(C)Z" } : Jvm.MethodName) prog_14_method_53_code (3 : Nat) (Option.some Jvm.ClassFile.FieldType.boolean)) ∈ mh_WT := mh_in6 (i := 193) (by decide +kernel) rfl
theorem tw_6_194 : (Jvm.Cond.methodLink "MilkHillsLaw" (79 : Nat) ({ cls := "MilkHillsModel", name := "law", desc := "(IIII)I" } : Jvm.MethodName)) ∈ mh_WT := mh_in6 (i := 194) (by decide +kernel) rfl
theorem tw_6_195 : (Jvm.Cond.instanceMethod ({ cls := "MilkHillsModel", name := "law", desc := "(IIII)I" } : Jvm.MethodName)) ∈ mh_WT := mh_in6 (i := 195) (by decide +kernel) rfl
theorem tw_6_196 : (Jvm.Cond.selects "MilkHillsModel" ({ cls := "MilkHillsModel", name := "law", desc := "(IIII)I" } : Jvm.MethodName) ({ cls := "MilkHillsModel", name := "law", desc := "(IIII)I" } : Jvm.MethodName)) ∈ mh_WT := mh_in6 (i := 196) (by decide +kernel) rfl
theorem tw_6_197 : (Jvm.Cond.code ({ cls := "MilkHillsModel", name := "law", desc := "(IIII)I" } : Jvm.MethodName) prog_14_method_64_code (5 : Nat) (Option.some Jvm.ClassFile.FieldType.int)) ∈ mh_WT := mh_in6 (i := 197) (by decide +kernel) rfl
theorem tw_6_198 : (Jvm.Cond.methodLink "MilkHillsLaw" (83 : Nat) ({ cls := "MilkHillsModel", name := "quarters", desc := "(I)I" } : Jvm.MethodName)) ∈ mh_WT := mh_in6 (i := 198) (by decide +kernel) rfl
theorem tw_6_199 : (Jvm.Cond.instanceMethod ({ cls := "MilkHillsModel", name := "quarters", desc := "(I)I" } : Jvm.MethodName)) ∈ mh_WT := mh_in6 (i := 199) (by decide +kernel) rfl
theorem tw_6_200 : (Jvm.Cond.selects "MilkHillsModel" ({ cls := "MilkHillsModel", name := "quarters", desc := "(I)I" } : Jvm.MethodName) ({ cls := "MilkHillsModel", name := "quarters", desc := "(I)I" } : Jvm.MethodName)) ∈ mh_WT := mh_in6 (i := 200) (by decide +kernel) rfl
theorem tw_6_201 : (Jvm.Cond.code ({ cls := "MilkHillsModel", name := "quarters", desc := "(I)I" } : Jvm.MethodName) prog_14_method_69_code (3 : Nat) (Option.some Jvm.ClassFile.FieldType.int)) ∈ mh_WT := mh_in6 (i := 201) (by decide +kernel) rfl
theorem tw_6_202 : (Jvm.Cond.constantLong "MilkHillsModel" (263 : Nat) (300 : Int64)) ∈ mh_WT := mh_in6 (i := 202) (by decide +kernel) rfl
theorem tw_6_203 : (Jvm.Cond.methodLink "MilkHillsModel" (265 : Nat) ({ cls := "MilkHillsModel", name := "aQuarter", desc := "()V" } : Jvm.MethodName)) ∈ mh_WT := mh_in6 (i := 203) (by decide +kernel) rfl
theorem tw_6_205 : (Jvm.Cond.instanceMethod ({ cls := "MilkHillsModel", name := "aQuarter", desc := "()V" } : Jvm.MethodName)) ∈ mh_WT := mh_in6 (i := 205) (by decide +kernel) rfl
theorem tw_6_206 : (Jvm.Cond.code ({ cls := "MilkHillsModel", name := "aQuarter", desc := "()V" } : Jvm.MethodName) prog_14_method_68_code (2 : Nat) (Option.none : Option Jvm.ClassFile.FieldType)) ∈ mh_WT := mh_in6 (i := 206) (by decide +kernel) rfl
theorem tw_6_207 : (Jvm.Cond.methodLink "MilkHillsModel" (260 : Nat) ({ cls := "MilkHillsModel", name := "goesOn", desc := "(I)V" } : Jvm.MethodName)) ∈ mh_WT := mh_in6 (i := 207) (by decide +kernel) rfl
theorem tw_6_209 : (Jvm.Cond.instanceMethod ({ cls := "MilkHillsModel", name := "goesOn", desc := "(I)V" } : Jvm.MethodName)) ∈ mh_WT := mh_in6 (i := 209) (by decide +kernel) rfl
theorem tw_6_210 : (Jvm.Cond.code ({ cls := "MilkHillsModel", name := "goesOn", desc := "(I)V" } : Jvm.MethodName) prog_14_method_66_code (4 : Nat) (Option.none : Option Jvm.ClassFile.FieldType)) ∈ mh_WT := mh_in6 (i := 210) (by decide +kernel) rfl
theorem tw_6_211 : (Jvm.Cond.methodLink "MilkHillsModel" (242 : Nat) ({ cls := "MilkHillsModel", name := "warms", desc := "(III)I" } : Jvm.MethodName)) ∈ mh_WT := mh_in6 (i := 211) (by decide +kernel) rfl
theorem tw_6_212 : (Jvm.Cond.static ({ cls := "MilkHillsModel", name := "warms", desc := "(III)I" } : Jvm.MethodName)) ∈ mh_WT := mh_in6 (i := 212) (by decide +kernel) rfl
theorem tw_6_213 : (Jvm.Cond.code ({ cls := "MilkHillsModel", name := "warms", desc := "(III)I" } : Jvm.MethodName) prog_14_method_18_code (3 : Nat) (Option.some Jvm.ClassFile.FieldType.int)) ∈ mh_WT := mh_in6 (i := 213) (by decide +kernel) rfl
theorem tw_6_214 : (Jvm.Cond.methodLink "MilkHillsModel" (245 : Nat) ({ cls := "MilkHillsModel", name := "sours", desc := "(II)V" } : Jvm.MethodName)) ∈ mh_WT := mh_in6 (i := 214) (by decide +kernel) rfl
theorem tw_6_216 : (Jvm.Cond.instanceMethod ({ cls := "MilkHillsModel", name := "sours", desc := "(II)V" } : Jvm.MethodName)) ∈ mh_WT := mh_in6 (i := 216) (by decide +kernel) rfl
theorem tw_6_217 : (Jvm.Cond.code ({ cls := "MilkHillsModel", name := "sours", desc := "(II)V" } : Jvm.MethodName) prog_14_method_65_code (3 : Nat) (Option.none : Option Jvm.ClassFile.FieldType)) ∈ mh_WT := mh_in6 (i := 217) (by decide +kernel) rfl
theorem tw_6_218 : (Jvm.Cond.methodLink "MilkHillsModel" (248 : Nat) ({ cls := "MilkHillsModel", name := "shake", desc := "(I)I" } : Jvm.MethodName)) ∈ mh_WT := mh_in6 (i := 218) (by decide +kernel) rfl
theorem tw_6_220 : (Jvm.Cond.instanceMethod ({ cls := "MilkHillsModel", name := "shake", desc := "(I)I" } : Jvm.MethodName)) ∈ mh_WT := mh_in6 (i := 220) (by decide +kernel) rfl
theorem tw_6_221 : (Jvm.Cond.code ({ cls := "MilkHillsModel", name := "shake", desc := "(I)I" } : Jvm.MethodName) prog_14_method_15_code (2 : Nat) (Option.some Jvm.ClassFile.FieldType.int)) ∈ mh_WT := mh_in6 (i := 221) (by decide +kernel) rfl
theorem tw_6_222 : (Jvm.Cond.methodLink "MilkHillsModel" (251 : Nat) ({ cls := "MilkHillsModel", name := "jolts", desc := "(III)I" } : Jvm.MethodName)) ∈ mh_WT := mh_in6 (i := 222) (by decide +kernel) rfl
theorem tw_6_223 : (Jvm.Cond.static ({ cls := "MilkHillsModel", name := "jolts", desc := "(III)I" } : Jvm.MethodName)) ∈ mh_WT := mh_in6 (i := 223) (by decide +kernel) rfl
theorem tw_6_224 : (Jvm.Cond.code ({ cls := "MilkHillsModel", name := "jolts", desc := "(III)I" } : Jvm.MethodName) prog_14_method_19_code (3 : Nat) (Option.some Jvm.ClassFile.FieldType.int)) ∈ mh_WT := mh_in6 (i := 224) (by decide +kernel) rfl
theorem tw_6_225 : (Jvm.Cond.methodLink "MilkHillsModel" (254 : Nat) ({ cls := "MilkHillsModel", name := "comes", desc := "(I)V" } : Jvm.MethodName)) ∈ mh_WT := mh_in6 (i := 225) (by decide +kernel) rfl
theorem tw_6_227 : (Jvm.Cond.instanceMethod ({ cls := "MilkHillsModel", name := "comes", desc := "(I)V" } : Jvm.MethodName)) ∈ mh_WT := mh_in6 (i := 227) (by decide +kernel) rfl
theorem tw_6_228 : (Jvm.Cond.code ({ cls := "MilkHillsModel", name := "comes", desc := "(I)V" } : Jvm.MethodName) prog_14_method_67_code (3 : Nat) (Option.none : Option Jvm.ClassFile.FieldType)) ∈ mh_WT := mh_in6 (i := 228) (by decide +kernel) rfl
theorem tw_6_229 : (Jvm.Cond.methodLink "MilkHillsModel" (257 : Nat) ({ cls := "MilkHillsModel", name := "worth", desc := "(III)I" } : Jvm.MethodName)) ∈ mh_WT := mh_in6 (i := 229) (by decide +kernel) rfl
theorem tw_6_231 : (Jvm.Cond.instanceMethod ({ cls := "MilkHillsModel", name := "worth", desc := "(III)I" } : Jvm.MethodName)) ∈ mh_WT := mh_in6 (i := 231) (by decide +kernel) rfl
theorem tw_6_232 : (Jvm.Cond.code ({ cls := "MilkHillsModel", name := "worth", desc := "(III)I" } : Jvm.MethodName) prog_14_method_27_code (4 : Nat) (Option.some Jvm.ClassFile.FieldType.int)) ∈ mh_WT := mh_in6 (i := 232) (by decide +kernel) rfl
theorem tw_6_233 : (Jvm.Cond.methodLink "MilkHillsLaw" (87 : Nat) ({ cls := "MilkHillsModel", name := "days", desc := "(I)I" } : Jvm.MethodName)) ∈ mh_WT := mh_in6 (i := 233) (by decide +kernel) rfl
theorem tw_6_234 : (Jvm.Cond.instanceMethod ({ cls := "MilkHillsModel", name := "days", desc := "(I)I" } : Jvm.MethodName)) ∈ mh_WT := mh_in6 (i := 234) (by decide +kernel) rfl
theorem tw_6_235 : (Jvm.Cond.selects "MilkHillsModel" ({ cls := "MilkHillsModel", name := "days", desc := "(I)I" } : Jvm.MethodName) ({ cls := "MilkHillsModel", name := "days", desc := "(I)I" } : Jvm.MethodName)) ∈ mh_WT := mh_in6 (i := 235) (by decide +kernel) rfl
theorem tw_6_236 : (Jvm.Cond.code ({ cls := "MilkHillsModel", name := "days", desc := "(I)I" } : Jvm.MethodName) prog_14_method_72_code (4 : Nat) (Option.some Jvm.ClassFile.FieldType.int)) ∈ mh_WT := mh_in6 (i := 236) (by decide +kernel) rfl
theorem tw_6_237 : (Jvm.Cond.methodLink "MilkHillsModel" (269 : Nat) ({ cls := "MilkHillsModel", name := "draw", desc := "()I" } : Jvm.MethodName)) ∈ mh_WT := mh_in6 (i := 237) (by decide +kernel) rfl
theorem tw_6_239 : (Jvm.Cond.instanceMethod ({ cls := "MilkHillsModel", name := "draw", desc := "()I" } : Jvm.MethodName)) ∈ mh_WT := mh_in6 (i := 239) (by decide +kernel) rfl
theorem tw_7_0 : (Jvm.Cond.code ({ cls := "MilkHillsModel", name := "draw", desc := "()I" } : Jvm.MethodName) prog_14_method_71_code (1 : Nat) (Option.some Jvm.ClassFile.FieldType.int)) ∈ mh_WT := mh_in7 (i := 0) (by decide +kernel) rfl
theorem tw_7_1 : (Jvm.Cond.constant "MilkHillsModel" (268 : Nat) (1103515245 : Int32)) ∈ mh_WT := mh_in7 (i := 1) (by decide +kernel) rfl
theorem tw_7_2 : (Jvm.Cond.methodLink "MilkHillsModel" (272 : Nat) ({ cls := "MilkHillsModel", name := "thunders", desc := "()I" } : Jvm.MethodName)) ∈ mh_WT := mh_in7 (i := 2) (by decide +kernel) rfl
theorem tw_7_4 : (Jvm.Cond.instanceMethod ({ cls := "MilkHillsModel", name := "thunders", desc := "()I" } : Jvm.MethodName)) ∈ mh_WT := mh_in7 (i := 4) (by decide +kernel) rfl
theorem tw_7_5 : (Jvm.Cond.code ({ cls := "MilkHillsModel", name := "thunders", desc := "()I" } : Jvm.MethodName) prog_14_method_70_code (3 : Nat) (Option.some Jvm.ClassFile.FieldType.int)) ∈ mh_WT := mh_in7 (i := 5) (by decide +kernel) rfl
theorem tw_7_6 : (Jvm.Cond.methodLink "MilkHillsLaw" (92 : Nat) ({ cls := "MilkHillsModel", name := "thunder", desc := "()I" } : Jvm.MethodName)) ∈ mh_WT := mh_in7 (i := 6) (by decide +kernel) rfl
theorem tw_7_7 : (Jvm.Cond.instanceMethod ({ cls := "MilkHillsModel", name := "thunder", desc := "()I" } : Jvm.MethodName)) ∈ mh_WT := mh_in7 (i := 7) (by decide +kernel) rfl
theorem tw_7_8 : (Jvm.Cond.selects "MilkHillsModel" ({ cls := "MilkHillsModel", name := "thunder", desc := "()I" } : Jvm.MethodName) ({ cls := "MilkHillsModel", name := "thunder", desc := "()I" } : Jvm.MethodName)) ∈ mh_WT := mh_in7 (i := 8) (by decide +kernel) rfl
theorem tw_7_9 : (Jvm.Cond.code ({ cls := "MilkHillsModel", name := "thunder", desc := "()I" } : Jvm.MethodName) prog_14_method_73_code (1 : Nat) (Option.some Jvm.ClassFile.FieldType.int)) ∈ mh_WT := mh_in7 (i := 9) (by decide +kernel) rfl
theorem tw_7_10 : (Jvm.Cond.methodLink "MilkHillsLaw" (96 : Nat) ({ cls := "MilkHillsModel", name := "then", desc := "(III)I" } : Jvm.MethodName)) ∈ mh_WT := mh_in7 (i := 10) (by decide +kernel) rfl
theorem tw_7_11 : (Jvm.Cond.instanceMethod ({ cls := "MilkHillsModel", name := "then", desc := "(III)I" } : Jvm.MethodName)) ∈ mh_WT := mh_in7 (i := 11) (by decide +kernel) rfl
theorem tw_7_12 : (Jvm.Cond.selects "MilkHillsModel" ({ cls := "MilkHillsModel", name := "then", desc := "(III)I" } : Jvm.MethodName) ({ cls := "MilkHillsModel", name := "then", desc := "(III)I" } : Jvm.MethodName)) ∈ mh_WT := mh_in7 (i := 12) (by decide +kernel) rfl
theorem tw_7_13 : (Jvm.Cond.code ({ cls := "MilkHillsModel", name := "then", desc := "(III)I" } : Jvm.MethodName) prog_14_method_74_code (5 : Nat) (Option.some Jvm.ClassFile.FieldType.int)) ∈ mh_WT := mh_in7 (i := 13) (by decide +kernel) rfl
theorem tw_7_14 : (Jvm.Cond.constantLong "MilkHillsModel" (275 : Nat) (7 : Int64)) ∈ mh_WT := mh_in7 (i := 14) (by decide +kernel) rfl
theorem tw_7_15 : (Jvm.Cond.methodLink "MilkHillsModel" (277 : Nat) ({ cls := "MilkHillsModel", name := "lends", desc := "()V" } : Jvm.MethodName)) ∈ mh_WT := mh_in7 (i := 15) (by decide +kernel) rfl
theorem tw_7_17 : (Jvm.Cond.instanceMethod ({ cls := "MilkHillsModel", name := "lends", desc := "()V" } : Jvm.MethodName)) ∈ mh_WT := mh_in7 (i := 17) (by decide +kernel) rfl
theorem tw_7_18 : (Jvm.Cond.code ({ cls := "MilkHillsModel", name := "lends", desc := "()V" } : Jvm.MethodName) prog_14_method_6_code (1 : Nat) (Option.none : Option Jvm.ClassFile.FieldType)) ∈ mh_WT := mh_in7 (i := 18) (by decide +kernel) rfl
theorem tw_7_19 : (Jvm.Cond.methodLink "MilkHillsModel" (63 : Nat) ({ cls := "MilkHillsModel", name := "become", desc := "([I[I)V" } : Jvm.MethodName)) ∈ mh_WT := mh_in7 (i := 19) (by decide +kernel) rfl
theorem tw_7_20 : (Jvm.Cond.static ({ cls := "MilkHillsModel", name := "become", desc := "([I[I)V" } : Jvm.MethodName)) ∈ mh_WT := mh_in7 (i := 20) (by decide +kernel) rfl
theorem tw_7_21 : (Jvm.Cond.code ({ cls := "MilkHillsModel", name := "become", desc := "([I[I)V" } : Jvm.MethodName) prog_14_method_5_code (3 : Nat) (Option.none : Option Jvm.ClassFile.FieldType)) ∈ mh_WT := mh_in7 (i := 21) (by decide +kernel) rfl
theorem tw_7_22 : (Jvm.Cond.methodLink "MilkHillsModel" (280 : Nat) ({ cls := "MilkHillsModel", name := "laysBack", desc := "()V" } : Jvm.MethodName)) ∈ mh_WT := mh_in7 (i := 22) (by decide +kernel) rfl
theorem tw_7_24 : (Jvm.Cond.instanceMethod ({ cls := "MilkHillsModel", name := "laysBack", desc := "()V" } : Jvm.MethodName)) ∈ mh_WT := mh_in7 (i := 24) (by decide +kernel) rfl
theorem tw_7_25 : (Jvm.Cond.code ({ cls := "MilkHillsModel", name := "laysBack", desc := "()V" } : Jvm.MethodName) prog_14_method_7_code (1 : Nat) (Option.none : Option Jvm.ClassFile.FieldType)) ∈ mh_WT := mh_in7 (i := 25) (by decide +kernel) rfl
theorem tw_7_26 : (Jvm.Cond.methodLink "MilkHillsLaw" (100 : Nat) ({ cls := "MilkHillsModel", name := "relays", desc := "(III)I" } : Jvm.MethodName)) ∈ mh_WT := mh_in7 (i := 26) (by decide +kernel) rfl
theorem tw_7_27 : (Jvm.Cond.instanceMethod ({ cls := "MilkHillsModel", name := "relays", desc := "(III)I" } : Jvm.MethodName)) ∈ mh_WT := mh_in7 (i := 27) (by decide +kernel) rfl
theorem tw_7_28 : (Jvm.Cond.selects "MilkHillsModel" ({ cls := "MilkHillsModel", name := "relays", desc := "(III)I" } : Jvm.MethodName) ({ cls := "MilkHillsModel", name := "relays", desc := "(III)I" } : Jvm.MethodName)) ∈ mh_WT := mh_in7 (i := 28) (by decide +kernel) rfl
theorem tw_7_29 : (Jvm.Cond.code ({ cls := "MilkHillsModel", name := "relays", desc := "(III)I" } : Jvm.MethodName) prog_14_method_83_code (5 : Nat) (Option.some Jvm.ClassFile.FieldType.int)) ∈ mh_WT := mh_in7 (i := 29) (by decide +kernel) rfl
theorem tw_7_30 : (Jvm.Cond.constantLong "MilkHillsModel" (304 : Nat) (60 : Int64)) ∈ mh_WT := mh_in7 (i := 30) (by decide +kernel) rfl
theorem tw_7_31 : (Jvm.Cond.constantLong "MilkHillsModel" (306 : Nat) (-1 : Int64)) ∈ mh_WT := mh_in7 (i := 31) (by decide +kernel) rfl
theorem tw_7_32 : (Jvm.Cond.methodLink "MilkHillsModel" (308 : Nat) ({ cls := "MilkHillsModel", name := "mayRelay", desc := "(I)Z" } : Jvm.MethodName)) ∈ mh_WT := mh_in7 (i := 32) (by decide +kernel) rfl
theorem tw_7_34 : (Jvm.Cond.instanceMethod ({ cls := "MilkHillsModel", name := "mayRelay", desc := "(I)Z" } : Jvm.MethodName)) ∈ mh_WT := mh_in7 (i := 34) (by decide +kernel) rfl
theorem tw_7_35 : (Jvm.Cond.code ({ cls := "MilkHillsModel", name := "mayRelay", desc := "(I)Z" } : Jvm.MethodName) prog_14_method_81_code (2 : Nat) (Option.some Jvm.ClassFile.FieldType.boolean)) ∈ mh_WT := mh_in7 (i := 35) (by decide +kernel) rfl
theorem tw_7_36 : (Jvm.Cond.methodLink "MilkHillsModel" (311 : Nat) ({ cls := "MilkHillsModel", name := "relayed", desc := "(II)I" } : Jvm.MethodName)) ∈ mh_WT := mh_in7 (i := 36) (by decide +kernel) rfl
theorem tw_7_38 : (Jvm.Cond.instanceMethod ({ cls := "MilkHillsModel", name := "relayed", desc := "(II)I" } : Jvm.MethodName)) ∈ mh_WT := mh_in7 (i := 38) (by decide +kernel) rfl
theorem tw_7_39 : (Jvm.Cond.code ({ cls := "MilkHillsModel", name := "relayed", desc := "(II)I" } : Jvm.MethodName) prog_14_method_80_code (6 : Nat) (Option.some Jvm.ClassFile.FieldType.int)) ∈ mh_WT := mh_in7 (i := 39) (by decide +kernel) rfl
theorem tw_7_40 : (Jvm.Cond.methodLink "MilkHillsModel" (297 : Nat) ({ cls := "MilkHillsModel", name := "findWarmed", desc := "(I)V" } : Jvm.MethodName)) ∈ mh_WT := mh_in7 (i := 40) (by decide +kernel) rfl
theorem tw_7_42 : (Jvm.Cond.instanceMethod ({ cls := "MilkHillsModel", name := "findWarmed", desc := "(I)V" } : Jvm.MethodName)) ∈ mh_WT := mh_in7 (i := 42) (by decide +kernel) rfl
theorem tw_7_43 : (Jvm.Cond.code ({ cls := "MilkHillsModel", name := "findWarmed", desc := "(I)V" } : Jvm.MethodName) prog_14_method_76_code (5 : Nat) (Option.none : Option Jvm.ClassFile.FieldType)) ∈ mh_WT := mh_in7 (i := 43) (by decide +kernel) rfl
theorem tw_7_44 : (Jvm.Cond.methodLink "MilkHillsModel" (287 : Nat) ({ cls := "MilkHillsModel", name := "placeOf", desc := "(III)I" } : Jvm.MethodName)) ∈ mh_WT := mh_in7 (i := 44) (by decide +kernel) rfl
theorem tw_7_45 : (Jvm.Cond.static ({ cls := "MilkHillsModel", name := "placeOf", desc := "(III)I" } : Jvm.MethodName)) ∈ mh_WT := mh_in7 (i := 45) (by decide +kernel) rfl
theorem tw_7_46 : (Jvm.Cond.code ({ cls := "MilkHillsModel", name := "placeOf", desc := "(III)I" } : Jvm.MethodName) prog_14_method_75_code (3 : Nat) (Option.some Jvm.ClassFile.FieldType.int)) ∈ mh_WT := mh_in7 (i := 46) (by decide +kernel) rfl
theorem tw_7_47 : (Jvm.Cond.methodLink "MilkHillsModel" (300 : Nat) ({ cls := "MilkHillsModel", name := "leastFrom", desc := "(IIIII)I" } : Jvm.MethodName)) ∈ mh_WT := mh_in7 (i := 47) (by decide +kernel) rfl
theorem tw_7_49 : (Jvm.Cond.instanceMethod ({ cls := "MilkHillsModel", name := "leastFrom", desc := "(IIIII)I" } : Jvm.MethodName)) ∈ mh_WT := mh_in7 (i := 49) (by decide +kernel) rfl
theorem tw_7_50 : (Jvm.Cond.code ({ cls := "MilkHillsModel", name := "leastFrom", desc := "(IIIII)I" } : Jvm.MethodName) prog_14_method_79_code (9 : Nat) (Option.some Jvm.ClassFile.FieldType.int)) ∈ mh_WT := mh_in7 (i := 50) (by decide +kernel) rfl
theorem tw_7_51 : (Jvm.Cond.constant "MilkHillsModel" (283 : Nat) (1000000 : Int32)) ∈ mh_WT := mh_in7 (i := 51) (by decide +kernel) rfl
theorem tw_7_52 : (Jvm.Cond.methodLink "MilkHillsModel" (293 : Nat) ({ cls := "MilkHillsModel", name := "leastBy", desc := "(IIIIIII)I" } : Jvm.MethodName)) ∈ mh_WT := mh_in7 (i := 52) (by decide +kernel) rfl
theorem tw_7_54 : (Jvm.Cond.instanceMethod ({ cls := "MilkHillsModel", name := "leastBy", desc := "(IIIIIII)I" } : Jvm.MethodName)) ∈ mh_WT := mh_in7 (i := 54) (by decide +kernel) rfl
theorem tw_7_55 : (Jvm.Cond.code ({ cls := "MilkHillsModel", name := "leastBy", desc := "(IIIIIII)I" } : Jvm.MethodName) prog_14_method_78_code (12 : Nat) (Option.some Jvm.ClassFile.FieldType.int)) ∈ mh_WT := mh_in7 (i := 55) (by decide +kernel) rfl
theorem tw_7_56 : (Jvm.Cond.methodLink "MilkHillsModel" (284 : Nat) ({ cls := "MilkHillsModel", name := "warmedIn", desc := "(III)I" } : Jvm.MethodName)) ∈ mh_WT := mh_in7 (i := 56) (by decide +kernel) rfl
theorem tw_7_58 : (Jvm.Cond.instanceMethod ({ cls := "MilkHillsModel", name := "warmedIn", desc := "(III)I" } : Jvm.MethodName)) ∈ mh_WT := mh_in7 (i := 58) (by decide +kernel) rfl
theorem tw_7_59 : (Jvm.Cond.code ({ cls := "MilkHillsModel", name := "warmedIn", desc := "(III)I" } : Jvm.MethodName) prog_14_method_77_code (4 : Nat) (Option.some Jvm.ClassFile.FieldType.int)) ∈ mh_WT := mh_in7 (i := 59) (by decide +kernel) rfl
theorem tw_7_60 : (Jvm.Cond.methodLink "MilkHillsModel" (314 : Nat) ({ cls := "MilkHillsModel", name := "wayAt", desc := "(III)I" } : Jvm.MethodName)) ∈ mh_WT := mh_in7 (i := 60) (by decide +kernel) rfl
theorem tw_7_62 : (Jvm.Cond.instanceMethod ({ cls := "MilkHillsModel", name := "wayAt", desc := "(III)I" } : Jvm.MethodName)) ∈ mh_WT := mh_in7 (i := 62) (by decide +kernel) rfl
theorem tw_7_63 : (Jvm.Cond.code ({ cls := "MilkHillsModel", name := "wayAt", desc := "(III)I" } : Jvm.MethodName) prog_14_method_82_code (9 : Nat) (Option.some Jvm.ClassFile.FieldType.int)) ∈ mh_WT := mh_in7 (i := 63) (by decide +kernel) rfl
theorem tw_7_64 : (Jvm.Cond.methodLink "MilkHillsLaw" (104 : Nat) ({ cls := "MilkHillsModel", name := "turnsAt", desc := "(II)I" } : Jvm.MethodName)) ∈ mh_WT := mh_in7 (i := 64) (by decide +kernel) rfl
theorem tw_7_65 : (Jvm.Cond.instanceMethod ({ cls := "MilkHillsModel", name := "turnsAt", desc := "(II)I" } : Jvm.MethodName)) ∈ mh_WT := mh_in7 (i := 65) (by decide +kernel) rfl
theorem tw_7_66 : (Jvm.Cond.selects "MilkHillsModel" ({ cls := "MilkHillsModel", name := "turnsAt", desc := "(II)I" } : Jvm.MethodName) ({ cls := "MilkHillsModel", name := "turnsAt", desc := "(II)I" } : Jvm.MethodName)) ∈ mh_WT := mh_in7 (i := 66) (by decide +kernel) rfl
theorem tw_7_67 : (Jvm.Cond.code ({ cls := "MilkHillsModel", name := "turnsAt", desc := "(II)I" } : Jvm.MethodName) prog_14_method_87_code (4 : Nat) (Option.some Jvm.ClassFile.FieldType.int)) ∈ mh_WT := mh_in7 (i := 67) (by decide +kernel) rfl
theorem tw_7_68 : (Jvm.Cond.methodLink "MilkHillsModel" (332 : Nat) ({ cls := "MilkHillsModel", name := "begins", desc := "(IIIZ)V" } : Jvm.MethodName)) ∈ mh_WT := mh_in7 (i := 68) (by decide +kernel) rfl
theorem tw_7_70 : (Jvm.Cond.instanceMethod ({ cls := "MilkHillsModel", name := "begins", desc := "(IIIZ)V" } : Jvm.MethodName)) ∈ mh_WT := mh_in7 (i := 70) (by decide +kernel) rfl
theorem tw_7_71 : (Jvm.Cond.code ({ cls := "MilkHillsModel", name := "begins", desc := "(IIIZ)V" } : Jvm.MethodName) prog_14_method_84_code (5 : Nat) (Option.none : Option Jvm.ClassFile.FieldType)) ∈ mh_WT := mh_in7 (i := 71) (by decide +kernel) rfl
theorem tw_7_72 : (Jvm.Cond.methodLink "MilkHillsModel" (329 : Nat) ({ cls := "MilkHillsModel", name := "straight", desc := "(II)V" } : Jvm.MethodName)) ∈ mh_WT := mh_in7 (i := 72) (by decide +kernel) rfl
theorem tw_7_74 : (Jvm.Cond.instanceMethod ({ cls := "MilkHillsModel", name := "straight", desc := "(II)V" } : Jvm.MethodName)) ∈ mh_WT := mh_in7 (i := 74) (by decide +kernel) rfl
theorem tw_7_75 : (Jvm.Cond.code ({ cls := "MilkHillsModel", name := "straight", desc := "(II)V" } : Jvm.MethodName) prog_14_method_85_code (5 : Nat) (Option.none : Option Jvm.ClassFile.FieldType)) ∈ mh_WT := mh_in7 (i := 75) (by decide +kernel) rfl
theorem tw_7_76 : (Jvm.Cond.methodLink "MilkHillsLaw" (108 : Nat) ({ cls := "MilkHillsModel", name := "bestGiven", desc := "(III)I" } : Jvm.MethodName)) ∈ mh_WT := mh_in7 (i := 76) (by decide +kernel) rfl
theorem tw_7_77 : (Jvm.Cond.instanceMethod ({ cls := "MilkHillsModel", name := "bestGiven", desc := "(III)I" } : Jvm.MethodName)) ∈ mh_WT := mh_in7 (i := 77) (by decide +kernel) rfl
theorem tw_7_78 : (Jvm.Cond.selects "MilkHillsModel" ({ cls := "MilkHillsModel", name := "bestGiven", desc := "(III)I" } : Jvm.MethodName) ({ cls := "MilkHillsModel", name := "bestGiven", desc := "(III)I" } : Jvm.MethodName)) ∈ mh_WT := mh_in7 (i := 78) (by decide +kernel) rfl
theorem tw_7_79 : (Jvm.Cond.code ({ cls := "MilkHillsModel", name := "bestGiven", desc := "(III)I" } : Jvm.MethodName) prog_14_method_88_code (7 : Nat) (Option.some Jvm.ClassFile.FieldType.int)) ∈ mh_WT := mh_in7 (i := 79) (by decide +kernel) rfl
theorem tw_7_80 : (Jvm.Cond.methodLink "MilkHillsModel" (336 : Nat) ({ cls := "MilkHillsModel", name := "straightOn", desc := "(II)V" } : Jvm.MethodName)) ∈ mh_WT := mh_in7 (i := 80) (by decide +kernel) rfl
theorem tw_7_82 : (Jvm.Cond.instanceMethod ({ cls := "MilkHillsModel", name := "straightOn", desc := "(II)V" } : Jvm.MethodName)) ∈ mh_WT := mh_in7 (i := 82) (by decide +kernel) rfl
theorem tw_7_83 : (Jvm.Cond.code ({ cls := "MilkHillsModel", name := "straightOn", desc := "(II)V" } : Jvm.MethodName) prog_14_method_86_code (4 : Nat) (Option.none : Option Jvm.ClassFile.FieldType)) ∈ mh_WT := mh_in7 (i := 83) (by decide +kernel) rfl
theorem tw_7_84 : (Jvm.Cond.methodLink "MilkHillsLaw" (112 : Nat) ({ cls := "MilkHillsModel", name := "cellar", desc := "(III)I" } : Jvm.MethodName)) ∈ mh_WT := mh_in7 (i := 84) (by decide +kernel) rfl
theorem tw_7_85 : (Jvm.Cond.instanceMethod ({ cls := "MilkHillsModel", name := "cellar", desc := "(III)I" } : Jvm.MethodName)) ∈ mh_WT := mh_in7 (i := 85) (by decide +kernel) rfl
theorem tw_7_86 : (Jvm.Cond.selects "MilkHillsModel" ({ cls := "MilkHillsModel", name := "cellar", desc := "(III)I" } : Jvm.MethodName) ({ cls := "MilkHillsModel", name := "cellar", desc := "(III)I" } : Jvm.MethodName)) ∈ mh_WT := mh_in7 (i := 86) (by decide +kernel) rfl
theorem tw_7_87 : (Jvm.Cond.code ({ cls := "MilkHillsModel", name := "cellar", desc := "(III)I" } : Jvm.MethodName) prog_14_method_89_code (9 : Nat) (Option.some Jvm.ClassFile.FieldType.int)) ∈ mh_WT := mh_in7 (i := 87) (by decide +kernel) rfl
theorem tw_7_88 : (Jvm.Cond.methodLink "MilkHillsLaw" (117 : Nat) ({ cls := "MilkHillsModel", name := "odds", desc := "(III)J" } : Jvm.MethodName)) ∈ mh_WT := mh_in7 (i := 88) (by decide +kernel) rfl
theorem tw_7_89 : (Jvm.Cond.instanceMethod ({ cls := "MilkHillsModel", name := "odds", desc := "(III)J" } : Jvm.MethodName)) ∈ mh_WT := mh_in7 (i := 89) (by decide +kernel) rfl
theorem tw_7_90 : (Jvm.Cond.selects "MilkHillsModel" ({ cls := "MilkHillsModel", name := "odds", desc := "(III)J" } : Jvm.MethodName) ({ cls := "MilkHillsModel", name := "odds", desc := "(III)J" } : Jvm.MethodName)) ∈ mh_WT := mh_in7 (i := 90) (by decide +kernel) rfl
theorem tw_7_91 : (Jvm.Cond.code ({ cls := "MilkHillsModel", name := "odds", desc := "(III)J" } : Jvm.MethodName) prog_14_method_90_code (14 : Nat) (Option.some Jvm.ClassFile.FieldType.long)) ∈ mh_WT := mh_in7 (i := 91) (by decide +kernel) rfl
theorem tw_7_92 : (Jvm.Cond.constantLong "MilkHillsModel" (339 : Nat) (16 : Int64)) ∈ mh_WT := mh_in7 (i := 92) (by decide +kernel) rfl
theorem tw_7_93 : (Jvm.Cond.constantLong "MilkHillsModel" (341 : Nat) (12 : Int64)) ∈ mh_WT := mh_in7 (i := 93) (by decide +kernel) rfl
theorem tw_7_94 : (Jvm.Cond.methodLink "MilkHillsLaw" (121 : Nat) ({ cls := "MilkHillsModel", name := "byWhom", desc := "(III)I" } : Jvm.MethodName)) ∈ mh_WT := mh_in7 (i := 94) (by decide +kernel) rfl
theorem tw_7_95 : (Jvm.Cond.instanceMethod ({ cls := "MilkHillsModel", name := "byWhom", desc := "(III)I" } : Jvm.MethodName)) ∈ mh_WT := mh_in7 (i := 95) (by decide +kernel) rfl
theorem tw_7_96 : (Jvm.Cond.selects "MilkHillsModel" ({ cls := "MilkHillsModel", name := "byWhom", desc := "(III)I" } : Jvm.MethodName) ({ cls := "MilkHillsModel", name := "byWhom", desc := "(III)I" } : Jvm.MethodName)) ∈ mh_WT := mh_in7 (i := 96) (by decide +kernel) rfl
theorem tw_7_97 : (Jvm.Cond.code ({ cls := "MilkHillsModel", name := "byWhom", desc := "(III)I" } : Jvm.MethodName) prog_14_method_91_code (6 : Nat) (Option.some Jvm.ClassFile.FieldType.int)) ∈ mh_WT := mh_in7 (i := 97) (by decide +kernel) rfl
theorem tw_7_98 : (Jvm.Cond.constantLong "MilkHillsModel" (343 : Nat) (9999 : Int64)) ∈ mh_WT := mh_in7 (i := 98) (by decide +kernel) rfl
theorem tw_7_99 : (Jvm.Cond.methodLink "MilkHillsLaw" (125 : Nat) ({ cls := "MilkHillsModel", name := "seed", desc := "(I)I" } : Jvm.MethodName)) ∈ mh_WT := mh_in7 (i := 99) (by decide +kernel) rfl
theorem tw_7_100 : (Jvm.Cond.instanceMethod ({ cls := "MilkHillsModel", name := "seed", desc := "(I)I" } : Jvm.MethodName)) ∈ mh_WT := mh_in7 (i := 100) (by decide +kernel) rfl
theorem tw_7_101 : (Jvm.Cond.selects "MilkHillsModel" ({ cls := "MilkHillsModel", name := "seed", desc := "(I)I" } : Jvm.MethodName) ({ cls := "MilkHillsModel", name := "seed", desc := "(I)I" } : Jvm.MethodName)) ∈ mh_WT := mh_in7 (i := 101) (by decide +kernel) rfl
theorem tw_7_102 : (Jvm.Cond.code ({ cls := "MilkHillsModel", name := "seed", desc := "(I)I" } : Jvm.MethodName) prog_14_method_102_code (3 : Nat) (Option.some Jvm.ClassFile.FieldType.int)) ∈ mh_WT := mh_in7 (i := 102) (by decide +kernel) rfl
theorem tw_7_103 : (Jvm.Cond.methodLink "MilkHillsLaw" (129 : Nat) ({ cls := "MilkHillsModel", name := "voice", desc := "(III)I" } : Jvm.MethodName)) ∈ mh_WT := mh_in7 (i := 103) (by decide +kernel) rfl
theorem tw_7_104 : (Jvm.Cond.instanceMethod ({ cls := "MilkHillsModel", name := "voice", desc := "(III)I" } : Jvm.MethodName)) ∈ mh_WT := mh_in7 (i := 104) (by decide +kernel) rfl
theorem tw_7_105 : (Jvm.Cond.selects "MilkHillsModel" ({ cls := "MilkHillsModel", name := "voice", desc := "(III)I" } : Jvm.MethodName) ({ cls := "MilkHillsModel", name := "voice", desc := "(III)I" } : Jvm.MethodName)) ∈ mh_WT := mh_in7 (i := 105) (by decide +kernel) rfl
theorem tw_7_106 : (Jvm.Cond.code ({ cls := "MilkHillsModel", name := "voice", desc := "(III)I" } : Jvm.MethodName) prog_14_method_103_code (4 : Nat) (Option.some Jvm.ClassFile.FieldType.int)) ∈ mh_WT := mh_in7 (i := 106) (by decide +kernel) rfl
theorem tw_7_107 : (Jvm.Cond.methodLink "MilkHillsModel" (357 : Nat) ({ cls := "MilkHillsModel", name := "fills", desc := "(I)I" } : Jvm.MethodName)) ∈ mh_WT := mh_in7 (i := 107) (by decide +kernel) rfl
theorem tw_7_109 : (Jvm.Cond.instanceMethod ({ cls := "MilkHillsModel", name := "fills", desc := "(I)I" } : Jvm.MethodName)) ∈ mh_WT := mh_in7 (i := 109) (by decide +kernel) rfl
theorem tw_7_110 : (Jvm.Cond.code ({ cls := "MilkHillsModel", name := "fills", desc := "(I)I" } : Jvm.MethodName) prog_14_method_93_code (2 : Nat) (Option.some Jvm.ClassFile.FieldType.int)) ∈ mh_WT := mh_in7 (i := 110) (by decide +kernel) rfl
theorem tw_7_111 : (Jvm.Cond.methodLink "MilkHillsModel" (351 : Nat) ({ cls := "MilkHillsModel", name := "runs", desc := "(I)V" } : Jvm.MethodName)) ∈ mh_WT := mh_in7 (i := 111) (by decide +kernel) rfl
theorem tw_7_113 : (Jvm.Cond.instanceMethod ({ cls := "MilkHillsModel", name := "runs", desc := "(I)V" } : Jvm.MethodName)) ∈ mh_WT := mh_in7 (i := 113) (by decide +kernel) rfl
theorem tw_7_114 : (Jvm.Cond.code ({ cls := "MilkHillsModel", name := "runs", desc := "(I)V" } : Jvm.MethodName) prog_14_method_92_code (2 : Nat) (Option.none : Option Jvm.ClassFile.FieldType)) ∈ mh_WT := mh_in7 (i := 114) (by decide +kernel) rfl
theorem tw_7_115 : (Jvm.Cond.methodLink "MilkHillsModel" (378 : Nat) ({ cls := "MilkHillsModel", name := "shakes", desc := "(I)I" } : Jvm.MethodName)) ∈ mh_WT := mh_in7 (i := 115) (by decide +kernel) rfl
theorem tw_7_117 : (Jvm.Cond.instanceMethod ({ cls := "MilkHillsModel", name := "shakes", desc := "(I)I" } : Jvm.MethodName)) ∈ mh_WT := mh_in7 (i := 117) (by decide +kernel) rfl
theorem tw_7_118 : (Jvm.Cond.code ({ cls := "MilkHillsModel", name := "shakes", desc := "(I)I" } : Jvm.MethodName) prog_14_method_96_code (2 : Nat) (Option.some Jvm.ClassFile.FieldType.int)) ∈ mh_WT := mh_in7 (i := 118) (by decide +kernel) rfl
theorem tw_7_119 : (Jvm.Cond.methodLink "MilkHillsModel" (366 : Nat) ({ cls := "MilkHillsModel", name := "goatsShakes", desc := "(I)I" } : Jvm.MethodName)) ∈ mh_WT := mh_in7 (i := 119) (by decide +kernel) rfl
theorem tw_7_121 : (Jvm.Cond.instanceMethod ({ cls := "MilkHillsModel", name := "goatsShakes", desc := "(I)I" } : Jvm.MethodName)) ∈ mh_WT := mh_in7 (i := 121) (by decide +kernel) rfl
theorem tw_7_122 : (Jvm.Cond.code ({ cls := "MilkHillsModel", name := "goatsShakes", desc := "(I)I" } : Jvm.MethodName) prog_14_method_95_code (3 : Nat) (Option.some Jvm.ClassFile.FieldType.int)) ∈ mh_WT := mh_in7 (i := 122) (by decide +kernel) rfl
theorem tw_7_123 : (Jvm.Cond.methodLink "MilkHillsModel" (360 : Nat) ({ cls := "MilkHillsModel", name := "plainShakes", desc := "(I)I" } : Jvm.MethodName)) ∈ mh_WT := mh_in7 (i := 123) (by decide +kernel) rfl
theorem tw_7_125 : (Jvm.Cond.instanceMethod ({ cls := "MilkHillsModel", name := "plainShakes", desc := "(I)I" } : Jvm.MethodName)) ∈ mh_WT := mh_in7 (i := 125) (by decide +kernel) rfl
theorem tw_7_126 : (Jvm.Cond.code ({ cls := "MilkHillsModel", name := "plainShakes", desc := "(I)I" } : Jvm.MethodName) prog_14_method_94_code (2 : Nat) (Option.some Jvm.ClassFile.FieldType.int)) ∈ mh_WT := mh_in7 (i := 126) (by decide +kernel) rfl
theorem tw_7_127 : (Jvm.Cond.methodLink "MilkHillsModel" (363 : Nat) ({ cls := "MilkHillsModel", name := "cools", desc := "(I)I" } : Jvm.MethodName)) ∈ mh_WT := mh_in7 (i := 127) (by decide +kernel) rfl
theorem tw_7_129 : (Jvm.Cond.instanceMethod ({ cls := "MilkHillsModel", name := "cools", desc := "(I)I" } : Jvm.MethodName)) ∈ mh_WT := mh_in7 (i := 129) (by decide +kernel) rfl
theorem tw_7_130 : (Jvm.Cond.code ({ cls := "MilkHillsModel", name := "cools", desc := "(I)I" } : Jvm.MethodName) prog_14_method_99_code (2 : Nat) (Option.some Jvm.ClassFile.FieldType.int)) ∈ mh_WT := mh_in7 (i := 130) (by decide +kernel) rfl
theorem tw_7_131 : (Jvm.Cond.methodLink "MilkHillsModel" (375 : Nat) ({ cls := "MilkHillsModel", name := "creamedCools", desc := "(I)I" } : Jvm.MethodName)) ∈ mh_WT := mh_in7 (i := 131) (by decide +kernel) rfl
theorem tw_7_133 : (Jvm.Cond.instanceMethod ({ cls := "MilkHillsModel", name := "creamedCools", desc := "(I)I" } : Jvm.MethodName)) ∈ mh_WT := mh_in7 (i := 133) (by decide +kernel) rfl
theorem tw_7_134 : (Jvm.Cond.code ({ cls := "MilkHillsModel", name := "creamedCools", desc := "(I)I" } : Jvm.MethodName) prog_14_method_98_code (2 : Nat) (Option.some Jvm.ClassFile.FieldType.int)) ∈ mh_WT := mh_in7 (i := 134) (by decide +kernel) rfl
theorem tw_7_135 : (Jvm.Cond.methodLink "MilkHillsModel" (372 : Nat) ({ cls := "MilkHillsModel", name := "plainCools", desc := "(I)I" } : Jvm.MethodName)) ∈ mh_WT := mh_in7 (i := 135) (by decide +kernel) rfl
theorem tw_7_137 : (Jvm.Cond.instanceMethod ({ cls := "MilkHillsModel", name := "plainCools", desc := "(I)I" } : Jvm.MethodName)) ∈ mh_WT := mh_in7 (i := 137) (by decide +kernel) rfl
theorem tw_7_138 : (Jvm.Cond.code ({ cls := "MilkHillsModel", name := "plainCools", desc := "(I)I" } : Jvm.MethodName) prog_14_method_97_code (2 : Nat) (Option.some Jvm.ClassFile.FieldType.int)) ∈ mh_WT := mh_in7 (i := 138) (by decide +kernel) rfl
theorem tw_7_139 : (Jvm.Cond.methodLink "MilkHillsModel" (384 : Nat) ({ cls := "MilkHillsModel", name := "tells", desc := "(I)I" } : Jvm.MethodName)) ∈ mh_WT := mh_in7 (i := 139) (by decide +kernel) rfl
theorem tw_7_141 : (Jvm.Cond.instanceMethod ({ cls := "MilkHillsModel", name := "tells", desc := "(I)I" } : Jvm.MethodName)) ∈ mh_WT := mh_in7 (i := 141) (by decide +kernel) rfl
theorem tw_7_142 : (Jvm.Cond.code ({ cls := "MilkHillsModel", name := "tells", desc := "(I)I" } : Jvm.MethodName) prog_14_method_101_code (3 : Nat) (Option.some Jvm.ClassFile.FieldType.int)) ∈ mh_WT := mh_in7 (i := 142) (by decide +kernel) rfl
theorem tw_7_143 : (Jvm.Cond.methodLink "MilkHillsModel" (381 : Nat) ({ cls := "MilkHillsModel", name := "plainTells", desc := "(I)I" } : Jvm.MethodName)) ∈ mh_WT := mh_in7 (i := 143) (by decide +kernel) rfl
theorem tw_7_145 : (Jvm.Cond.instanceMethod ({ cls := "MilkHillsModel", name := "plainTells", desc := "(I)I" } : Jvm.MethodName)) ∈ mh_WT := mh_in7 (i := 145) (by decide +kernel) rfl
theorem tw_7_146 : (Jvm.Cond.code ({ cls := "MilkHillsModel", name := "plainTells", desc := "(I)I" } : Jvm.MethodName) prog_14_method_100_code (3 : Nat) (Option.some Jvm.ClassFile.FieldType.int)) ∈ mh_WT := mh_in7 (i := 146) (by decide +kernel) rfl
theorem tw_7_147 : (Jvm.Cond.methodLink "MilkHillsLaw" (133 : Nat) ({ cls := "MilkHillsModel", name := "trace", desc := "(I)I" } : Jvm.MethodName)) ∈ mh_WT := mh_in7 (i := 147) (by decide +kernel) rfl
theorem tw_7_148 : (Jvm.Cond.instanceMethod ({ cls := "MilkHillsModel", name := "trace", desc := "(I)I" } : Jvm.MethodName)) ∈ mh_WT := mh_in7 (i := 148) (by decide +kernel) rfl
theorem tw_7_149 : (Jvm.Cond.selects "MilkHillsModel" ({ cls := "MilkHillsModel", name := "trace", desc := "(I)I" } : Jvm.MethodName) ({ cls := "MilkHillsModel", name := "trace", desc := "(I)I" } : Jvm.MethodName)) ∈ mh_WT := mh_in7 (i := 149) (by decide +kernel) rfl
theorem tw_7_150 : (Jvm.Cond.code ({ cls := "MilkHillsModel", name := "trace", desc := "(I)I" } : Jvm.MethodName) prog_14_method_104_code (2 : Nat) (Option.some Jvm.ClassFile.FieldType.int)) ∈ mh_WT := mh_in7 (i := 150) (by decide +kernel) rfl
theorem tw_7_151 : (Jvm.Cond.methodLink "MilkHillsLaw" (137 : Nat) ({ cls := "MilkHillsModel", name := "sheet", desc := "(III)I" } : Jvm.MethodName)) ∈ mh_WT := mh_in7 (i := 151) (by decide +kernel) rfl
theorem tw_7_152 : (Jvm.Cond.instanceMethod ({ cls := "MilkHillsModel", name := "sheet", desc := "(III)I" } : Jvm.MethodName)) ∈ mh_WT := mh_in7 (i := 152) (by decide +kernel) rfl
theorem tw_7_153 : (Jvm.Cond.selects "MilkHillsModel" ({ cls := "MilkHillsModel", name := "sheet", desc := "(III)I" } : Jvm.MethodName) ({ cls := "MilkHillsModel", name := "sheet", desc := "(III)I" } : Jvm.MethodName)) ∈ mh_WT := mh_in7 (i := 153) (by decide +kernel) rfl
theorem tw_7_154 : (Jvm.Cond.code ({ cls := "MilkHillsModel", name := "sheet", desc := "(III)I" } : Jvm.MethodName) prog_14_method_106_code (6 : Nat) (Option.some Jvm.ClassFile.FieldType.int)) ∈ mh_WT := mh_in7 (i := 154) (by decide +kernel) rfl
theorem tw_7_155 : (Jvm.Cond.methodLink "MilkHillsModel" (387 : Nat) ({ cls := "MilkHillsModel", name := "isSheet", desc := "(I)Z" } : Jvm.MethodName)) ∈ mh_WT := mh_in7 (i := 155) (by decide +kernel) rfl
theorem tw_7_156 : (Jvm.Cond.static ({ cls := "MilkHillsModel", name := "isSheet", desc := "(I)Z" } : Jvm.MethodName)) ∈ mh_WT := mh_in7 (i := 156) (by decide +kernel) rfl
theorem tw_7_157 : (Jvm.Cond.code ({ cls := "MilkHillsModel", name := "isSheet", desc := "(I)Z" } : Jvm.MethodName) prog_14_method_105_code (1 : Nat) (Option.some Jvm.ClassFile.FieldType.boolean)) ∈ mh_WT := mh_in7 (i := 157) (by decide +kernel) rfl
theorem tw_7_158 : (Jvm.Cond.methodLink "MilkHillsLaw" (141 : Nat) ({ cls := "MilkHillsModel", name := "put", desc := "(III)I" } : Jvm.MethodName)) ∈ mh_WT := mh_in7 (i := 158) (by decide +kernel) rfl
theorem tw_7_159 : (Jvm.Cond.instanceMethod ({ cls := "MilkHillsModel", name := "put", desc := "(III)I" } : Jvm.MethodName)) ∈ mh_WT := mh_in7 (i := 159) (by decide +kernel) rfl
theorem tw_7_160 : (Jvm.Cond.selects "MilkHillsModel" ({ cls := "MilkHillsModel", name := "put", desc := "(III)I" } : Jvm.MethodName) ({ cls := "MilkHillsModel", name := "put", desc := "(III)I" } : Jvm.MethodName)) ∈ mh_WT := mh_in7 (i := 160) (by decide +kernel) rfl
theorem tw_7_161 : (Jvm.Cond.code ({ cls := "MilkHillsModel", name := "put", desc := "(III)I" } : Jvm.MethodName) prog_14_method_108_code (5 : Nat) (Option.some Jvm.ClassFile.FieldType.int)) ∈ mh_WT := mh_in7 (i := 161) (by decide +kernel) rfl
theorem tw_7_162 : (Jvm.Cond.methodLink "MilkHillsModel" (390 : Nat) ({ cls := "MilkHillsModel", name := "lacks", desc := "(I)I" } : Jvm.MethodName)) ∈ mh_WT := mh_in7 (i := 162) (by decide +kernel) rfl
theorem tw_7_164 : (Jvm.Cond.instanceMethod ({ cls := "MilkHillsModel", name := "lacks", desc := "(I)I" } : Jvm.MethodName)) ∈ mh_WT := mh_in7 (i := 164) (by decide +kernel) rfl
theorem tw_7_165 : (Jvm.Cond.code ({ cls := "MilkHillsModel", name := "lacks", desc := "(I)I" } : Jvm.MethodName) prog_14_method_107_code (2 : Nat) (Option.some Jvm.ClassFile.FieldType.int)) ∈ mh_WT := mh_in7 (i := 165) (by decide +kernel) rfl
theorem tw_7_166 : (Jvm.Cond.methodLink "MilkHillsLaw" (146 : Nat) ({ cls := "MilkHillsModel", name := "move", desc := "(IIIII)I" } : Jvm.MethodName)) ∈ mh_WT := mh_in7 (i := 166) (by decide +kernel) rfl
theorem tw_7_167 : (Jvm.Cond.instanceMethod ({ cls := "MilkHillsModel", name := "move", desc := "(IIIII)I" } : Jvm.MethodName)) ∈ mh_WT := mh_in7 (i := 167) (by decide +kernel) rfl
theorem tw_7_168 : (Jvm.Cond.selects "MilkHillsModel" ({ cls := "MilkHillsModel", name := "move", desc := "(IIIII)I" } : Jvm.MethodName) ({ cls := "MilkHillsModel", name := "move", desc := "(IIIII)I" } : Jvm.MethodName)) ∈ mh_WT := mh_in7 (i := 168) (by decide +kernel) rfl
theorem tw_7_169 : (Jvm.Cond.code ({ cls := "MilkHillsModel", name := "move", desc := "(IIIII)I" } : Jvm.MethodName) prog_14_method_109_code (8 : Nat) (Option.some Jvm.ClassFile.FieldType.int)) ∈ mh_WT := mh_in7 (i := 169) (by decide +kernel) rfl
theorem tw_7_170 : (Jvm.Cond.methodLink "MilkHillsLaw" (150 : Nat) ({ cls := "MilkHillsModel", name := "heats", desc := "(I)I" } : Jvm.MethodName)) ∈ mh_WT := mh_in7 (i := 170) (by decide +kernel) rfl
theorem tw_7_171 : (Jvm.Cond.instanceMethod ({ cls := "MilkHillsModel", name := "heats", desc := "(I)I" } : Jvm.MethodName)) ∈ mh_WT := mh_in7 (i := 171) (by decide +kernel) rfl
theorem tw_7_172 : (Jvm.Cond.selects "MilkHillsModel" ({ cls := "MilkHillsModel", name := "heats", desc := "(I)I" } : Jvm.MethodName) ({ cls := "MilkHillsModel", name := "heats", desc := "(I)I" } : Jvm.MethodName)) ∈ mh_WT := mh_in7 (i := 172) (by decide +kernel) rfl
theorem tw_7_173 : (Jvm.Cond.code ({ cls := "MilkHillsModel", name := "heats", desc := "(I)I" } : Jvm.MethodName) prog_14_method_110_code (4 : Nat) (Option.some Jvm.ClassFile.FieldType.int)) ∈ mh_WT := mh_in7 (i := 173) (by decide +kernel) rfl
theorem tw_7_174 : (Jvm.Cond.constantLong "MilkHillsModel" (393 : Nat) (40 : Int64)) ∈ mh_WT := mh_in7 (i := 174) (by decide +kernel) rfl
theorem tw_7_175 : (Jvm.Cond.methodLink "MilkHillsLaw" (154 : Nat) ({ cls := "MilkHillsModel", name := "judge", desc := "(I)I" } : Jvm.MethodName)) ∈ mh_WT := mh_in7 (i := 175) (by decide +kernel) rfl
theorem tw_7_176 : (Jvm.Cond.instanceMethod ({ cls := "MilkHillsModel", name := "judge", desc := "(I)I" } : Jvm.MethodName)) ∈ mh_WT := mh_in7 (i := 176) (by decide +kernel) rfl
theorem tw_7_177 : (Jvm.Cond.selects "MilkHillsModel" ({ cls := "MilkHillsModel", name := "judge", desc := "(I)I" } : Jvm.MethodName) ({ cls := "MilkHillsModel", name := "judge", desc := "(I)I" } : Jvm.MethodName)) ∈ mh_WT := mh_in7 (i := 177) (by decide +kernel) rfl
theorem tw_7_178 : (Jvm.Cond.code ({ cls := "MilkHillsModel", name := "judge", desc := "(I)I" } : Jvm.MethodName) prog_14_method_111_code (4 : Nat) (Option.some Jvm.ClassFile.FieldType.int)) ∈ mh_WT := mh_in7 (i := 178) (by decide +kernel) rfl
theorem tw_7_179 : (Jvm.Cond.methodLink "MilkHillsLaw" (158 : Nat) ({ cls := "MilkHillsModel", name := "image", desc := "()I" } : Jvm.MethodName)) ∈ mh_WT := mh_in7 (i := 179) (by decide +kernel) rfl
theorem tw_7_180 : (Jvm.Cond.instanceMethod ({ cls := "MilkHillsModel", name := "image", desc := "()I" } : Jvm.MethodName)) ∈ mh_WT := mh_in7 (i := 180) (by decide +kernel) rfl
theorem tw_7_181 : (Jvm.Cond.selects "MilkHillsModel" ({ cls := "MilkHillsModel", name := "image", desc := "()I" } : Jvm.MethodName) ({ cls := "MilkHillsModel", name := "image", desc := "()I" } : Jvm.MethodName)) ∈ mh_WT := mh_in7 (i := 181) (by decide +kernel) rfl
theorem tw_7_182 : (Jvm.Cond.code ({ cls := "MilkHillsModel", name := "image", desc := "()I" } : Jvm.MethodName) prog_14_method_112_code (1 : Nat) (Option.some Jvm.ClassFile.FieldType.int)) ∈ mh_WT := mh_in7 (i := 182) (by decide +kernel) rfl
theorem tw_7_183 : (Jvm.Cond.methodLink "MilkHillsLaw" (162 : Nat) ({ cls := "MilkHillsModel", name := "restore", desc := "()I" } : Jvm.MethodName)) ∈ mh_WT := mh_in7 (i := 183) (by decide +kernel) rfl
theorem tw_7_184 : (Jvm.Cond.instanceMethod ({ cls := "MilkHillsModel", name := "restore", desc := "()I" } : Jvm.MethodName)) ∈ mh_WT := mh_in7 (i := 184) (by decide +kernel) rfl
theorem tw_7_185 : (Jvm.Cond.selects "MilkHillsModel" ({ cls := "MilkHillsModel", name := "restore", desc := "()I" } : Jvm.MethodName) ({ cls := "MilkHillsModel", name := "restore", desc := "()I" } : Jvm.MethodName)) ∈ mh_WT := mh_in7 (i := 185) (by decide +kernel) rfl
theorem tw_7_186 : (Jvm.Cond.code ({ cls := "MilkHillsModel", name := "restore", desc := "()I" } : Jvm.MethodName) prog_14_method_113_code (1 : Nat) (Option.some Jvm.ClassFile.FieldType.int)) ∈ mh_WT := mh_in7 (i := 186) (by decide +kernel) rfl
theorem tw_7_187 : (Jvm.Cond.methodLink "MilkHillsLaw" (166 : Nat) ({ cls := "MilkHillsModel", name := "tell", desc := "(I)I" } : Jvm.MethodName)) ∈ mh_WT := mh_in7 (i := 187) (by decide +kernel) rfl
theorem tw_7_188 : (Jvm.Cond.instanceMethod ({ cls := "MilkHillsModel", name := "tell", desc := "(I)I" } : Jvm.MethodName)) ∈ mh_WT := mh_in7 (i := 188) (by decide +kernel) rfl
theorem tw_7_189 : (Jvm.Cond.selects "MilkHillsModel" ({ cls := "MilkHillsModel", name := "tell", desc := "(I)I" } : Jvm.MethodName) ({ cls := "MilkHillsModel", name := "tell", desc := "(I)I" } : Jvm.MethodName)) ∈ mh_WT := mh_in7 (i := 189) (by decide +kernel) rfl
theorem tw_7_190 : (Jvm.Cond.code ({ cls := "MilkHillsModel", name := "tell", desc := "(I)I" } : Jvm.MethodName) prog_14_method_114_code (2 : Nat) (Option.some Jvm.ClassFile.FieldType.int)) ∈ mh_WT := mh_in7 (i := 190) (by decide +kernel) rfl
theorem tw_7_191 : (Jvm.Cond.methodLink "MilkHillsLaw" (170 : Nat) ({ cls := "MilkHillsModel", name := "check", desc := "()I" } : Jvm.MethodName)) ∈ mh_WT := mh_in7 (i := 191) (by decide +kernel) rfl
theorem tw_7_192 : (Jvm.Cond.instanceMethod ({ cls := "MilkHillsModel", name := "check", desc := "()I" } : Jvm.MethodName)) ∈ mh_WT := mh_in7 (i := 192) (by decide +kernel) rfl
theorem tw_7_193 : (Jvm.Cond.selects "MilkHillsModel" ({ cls := "MilkHillsModel", name := "check", desc := "()I" } : Jvm.MethodName) ({ cls := "MilkHillsModel", name := "check", desc := "()I" } : Jvm.MethodName)) ∈ mh_WT := mh_in7 (i := 193) (by decide +kernel) rfl
theorem tw_7_194 : (Jvm.Cond.code ({ cls := "MilkHillsModel", name := "check", desc := "()I" } : Jvm.MethodName) prog_14_method_116_code (3 : Nat) (Option.some Jvm.ClassFile.FieldType.int)) ∈ mh_WT := mh_in7 (i := 194) (by decide +kernel) rfl
theorem tw_7_195 : (Jvm.Cond.methodLink "MilkHillsModel" (401 : Nat) ({ cls := "MilkHillsModel", name := "allSour", desc := "()I" } : Jvm.MethodName)) ∈ mh_WT := mh_in7 (i := 195) (by decide +kernel) rfl
theorem tw_7_197 : (Jvm.Cond.instanceMethod ({ cls := "MilkHillsModel", name := "allSour", desc := "()I" } : Jvm.MethodName)) ∈ mh_WT := mh_in7 (i := 197) (by decide +kernel) rfl
theorem tw_7_198 : (Jvm.Cond.code ({ cls := "MilkHillsModel", name := "allSour", desc := "()I" } : Jvm.MethodName) prog_14_method_115_code (3 : Nat) (Option.some Jvm.ClassFile.FieldType.int)) ∈ mh_WT := mh_in7 (i := 198) (by decide +kernel) rfl
theorem tw_7_199 : (Jvm.Cond.methodLink "MilkHillsLaw" (174 : Nat) ({ cls := "MilkHillsModel", name := "count", desc := "(I)I" } : Jvm.MethodName)) ∈ mh_WT := mh_in7 (i := 199) (by decide +kernel) rfl
theorem tw_7_200 : (Jvm.Cond.instanceMethod ({ cls := "MilkHillsModel", name := "count", desc := "(I)I" } : Jvm.MethodName)) ∈ mh_WT := mh_in7 (i := 200) (by decide +kernel) rfl
theorem tw_7_201 : (Jvm.Cond.selects "MilkHillsModel" ({ cls := "MilkHillsModel", name := "count", desc := "(I)I" } : Jvm.MethodName) ({ cls := "MilkHillsModel", name := "count", desc := "(I)I" } : Jvm.MethodName)) ∈ mh_WT := mh_in7 (i := 201) (by decide +kernel) rfl
theorem tw_7_202 : (Jvm.Cond.code ({ cls := "MilkHillsModel", name := "count", desc := "(I)I" } : Jvm.MethodName) prog_14_method_119_code (2 : Nat) (Option.some Jvm.ClassFile.FieldType.int)) ∈ mh_WT := mh_in7 (i := 202) (by decide +kernel) rfl
theorem tw_7_203 : (Jvm.Cond.methodLink "MilkHillsModel" (404 : Nat) ({ cls := "MilkHillsModel", name := "howMany", desc := "(I)I" } : Jvm.MethodName)) ∈ mh_WT := mh_in7 (i := 203) (by decide +kernel) rfl
theorem tw_7_205 : (Jvm.Cond.instanceMethod ({ cls := "MilkHillsModel", name := "howMany", desc := "(I)I" } : Jvm.MethodName)) ∈ mh_WT := mh_in7 (i := 205) (by decide +kernel) rfl
theorem tw_7_206 : (Jvm.Cond.code ({ cls := "MilkHillsModel", name := "howMany", desc := "(I)I" } : Jvm.MethodName) prog_14_method_117_code (4 : Nat) (Option.some Jvm.ClassFile.FieldType.int)) ∈ mh_WT := mh_in7 (i := 206) (by decide +kernel) rfl
theorem tw_7_207 : (Jvm.Cond.methodLink "MilkHillsModel" (407 : Nat) ({ cls := "MilkHillsModel", name := "sweet", desc := "()I" } : Jvm.MethodName)) ∈ mh_WT := mh_in7 (i := 207) (by decide +kernel) rfl
theorem tw_7_209 : (Jvm.Cond.instanceMethod ({ cls := "MilkHillsModel", name := "sweet", desc := "()I" } : Jvm.MethodName)) ∈ mh_WT := mh_in7 (i := 209) (by decide +kernel) rfl
theorem tw_7_210 : (Jvm.Cond.code ({ cls := "MilkHillsModel", name := "sweet", desc := "()I" } : Jvm.MethodName) prog_14_method_118_code (3 : Nat) (Option.some Jvm.ClassFile.FieldType.int)) ∈ mh_WT := mh_in7 (i := 210) (by decide +kernel) rfl
theorem tw_7_211 : (Jvm.Cond.methodLink "MilkHillsLaw" (178 : Nat) ({ cls := "MilkHillsModel", name := "told", desc := "(I)I" } : Jvm.MethodName)) ∈ mh_WT := mh_in7 (i := 211) (by decide +kernel) rfl
theorem tw_7_212 : (Jvm.Cond.instanceMethod ({ cls := "MilkHillsModel", name := "told", desc := "(I)I" } : Jvm.MethodName)) ∈ mh_WT := mh_in7 (i := 212) (by decide +kernel) rfl
theorem tw_7_213 : (Jvm.Cond.selects "MilkHillsModel" ({ cls := "MilkHillsModel", name := "told", desc := "(I)I" } : Jvm.MethodName) ({ cls := "MilkHillsModel", name := "told", desc := "(I)I" } : Jvm.MethodName)) ∈ mh_WT := mh_in7 (i := 213) (by decide +kernel) rfl
theorem tw_7_214 : (Jvm.Cond.code ({ cls := "MilkHillsModel", name := "told", desc := "(I)I" } : Jvm.MethodName) prog_14_method_120_code (2 : Nat) (Option.some Jvm.ClassFile.FieldType.int)) ∈ mh_WT := mh_in7 (i := 214) (by decide +kernel) rfl
theorem tw_7_215 : (Jvm.Cond.constantLong "MilkHillsModel" (410 : Nat) (5 : Int64)) ∈ mh_WT := mh_in7 (i := 215) (by decide +kernel) rfl
theorem tw_7_216 : (Jvm.Cond.constantLong "MilkHillsLaw" (64 : Nat) (4294967295 : Int64)) ∈ mh_WT := mh_in7 (i := 216) (by decide +kernel) rfl
theorem tw_7_217 : (Jvm.Cond.sameMethod "MilkHills$Goats" "MilkHills$Goats" "turns" "(I)I") ∈ mh_WT := mh_in7 (i := 217) (by decide +kernel) rfl
theorem tw_7_218 : (Jvm.Cond.sameMethod "MilkHills$Lidded" "MilkHills$Lidded" "warms" "(II)I") ∈ mh_WT := mh_in7 (i := 218) (by decide +kernel) rfl
theorem tw_7_219 : (Jvm.Cond.sameMethod "MilkHills$Creamed" "MilkHills$Creamed" "jolts" "(II)I") ∈ mh_WT := mh_in7 (i := 219) (by decide +kernel) rfl
theorem tw_7_220 : (Jvm.Cond.sameMethod "MilkHills$Creamed" "MilkHills$Creamed" "cools" "(LMilkHills$Churn;[II)I") ∈ mh_WT := mh_in7 (i := 220) (by decide +kernel) rfl
theorem tw_7_221 : (Jvm.Cond.sameMethod "MilkHills$Goats" "MilkHills$Goats" "shakes" "(LMilkHills$Churn;[II)I") ∈ mh_WT := mh_in7 (i := 221) (by decide +kernel) rfl
theorem tw_7_228 : (Jvm.Cond.fieldLink "java/lang/String" (9 : Nat) "java/lang/String" "value" "[B") ∈ mh_WT := mh_in7 (i := 228) (by decide +kernel) rfl
theorem tw_7_229 : (Jvm.Cond.fieldLink "java/lang/String" (15 : Nat) "java/lang/String" "coder" "B") ∈ mh_WT := mh_in7 (i := 229) (by decide +kernel) rfl
theorem mh_inP {q : MethodName × Nat} (h : q ∈ lw_privs) (hg : goodWord (Cond.selects q.1.cls q.1 q.1) = true) : Cond.selects q.1.cls q.1 q.1 ∈ mh_WT := List.mem_filter.mpr ⟨List.mem_append_left _ (List.mem_map.mpr ⟨q, h, rfl⟩), hg⟩
theorem tp_0 : Cond.selects "MilkHills$Text" ⟨"MilkHills$Text", "readAny", "(I)Z"⟩ ⟨"MilkHills$Text", "readAny", "(I)Z"⟩ ∈ mh_WT := mh_inP (q := (⟨"MilkHills$Text", "readAny", "(I)Z"⟩, 10)) (List.mem_of_getElem? (i := 0) (by decide +kernel)) rfl
theorem tp_1 : Cond.selects "MilkHills$Text" ⟨"MilkHills$Text", "readAll", "(I)Z"⟩ ⟨"MilkHills$Text", "readAll", "(I)Z"⟩ ∈ mh_WT := mh_inP (q := (⟨"MilkHills$Text", "readAll", "(I)Z"⟩, 10)) (List.mem_of_getElem? (i := 1) (by decide +kernel)) rfl
theorem tp_2 : Cond.selects "MilkHills$Text" ⟨"MilkHills$Text", "readCompared", "(I)Z"⟩ ⟨"MilkHills$Text", "readCompared", "(I)Z"⟩ ∈ mh_WT := mh_inP (q := (⟨"MilkHills$Text", "readCompared", "(I)Z"⟩, 10)) (List.mem_of_getElem? (i := 2) (by decide +kernel)) rfl
theorem tp_3 : Cond.selects "MilkHills$Text" ⟨"MilkHills$Text", "readSum", "(I)Z"⟩ ⟨"MilkHills$Text", "readSum", "(I)Z"⟩ ∈ mh_WT := mh_inP (q := (⟨"MilkHills$Text", "readSum", "(I)Z"⟩, 10)) (List.mem_of_getElem? (i := 3) (by decide +kernel)) rfl
theorem tp_4 : Cond.selects "MilkHills$Text" ⟨"MilkHills$Text", "readProduct", "(I)Z"⟩ ⟨"MilkHills$Text", "readProduct", "(I)Z"⟩ ∈ mh_WT := mh_inP (q := (⟨"MilkHills$Text", "readProduct", "(I)Z"⟩, 10)) (List.mem_of_getElem? (i := 4) (by decide +kernel)) rfl
theorem tp_5 : Cond.selects "MilkHills$Text" ⟨"MilkHills$Text", "readSingle", "(I)Z"⟩ ⟨"MilkHills$Text", "readSingle", "(I)Z"⟩ ∈ mh_WT := mh_inP (q := (⟨"MilkHills$Text", "readSingle", "(I)Z"⟩, 10)) (List.mem_of_getElem? (i := 5) (by decide +kernel)) rfl
theorem tp_6 : Cond.selects "MilkHills$Text" ⟨"MilkHills$Text", "seesDigit", "()Z"⟩ ⟨"MilkHills$Text", "seesDigit", "()Z"⟩ ∈ mh_WT := mh_inP (q := (⟨"MilkHills$Text", "seesDigit", "()Z"⟩, 10)) (List.mem_of_getElem? (i := 6) (by decide +kernel)) rfl
theorem tp_7 : Cond.selects "MilkHills$Text" ⟨"MilkHills$Text", "next", "()I"⟩ ⟨"MilkHills$Text", "next", "()I"⟩ ∈ mh_WT := mh_inP (q := (⟨"MilkHills$Text", "next", "()I"⟩, 10)) (List.mem_of_getElem? (i := 7) (by decide +kernel)) rfl
theorem tp_8 : Cond.selects "MilkHills$Text" ⟨"MilkHills$Text", "readNumber", "()V"⟩ ⟨"MilkHills$Text", "readNumber", "()V"⟩ ∈ mh_WT := mh_inP (q := (⟨"MilkHills$Text", "readNumber", "()V"⟩, 10)) (List.mem_of_getElem? (i := 8) (by decide +kernel)) rfl
theorem tp_9 : Cond.selects "MilkHills$Text" ⟨"MilkHills$Text", "write", "(I)V"⟩ ⟨"MilkHills$Text", "write", "(I)V"⟩ ∈ mh_WT := mh_inP (q := (⟨"MilkHills$Text", "write", "(I)V"⟩, 10)) (List.mem_of_getElem? (i := 9) (by decide +kernel)) rfl
theorem tp_10 : Cond.selects "MilkHills$Text" ⟨"MilkHills$Text", "sees", "(C)Z"⟩ ⟨"MilkHills$Text", "sees", "(C)Z"⟩ ∈ mh_WT := mh_inP (q := (⟨"MilkHills$Text", "sees", "(C)Z"⟩, 10)) (List.mem_of_getElem? (i := 10) (by decide +kernel)) rfl
theorem tp_11 : Cond.selects "MilkHills$Text" ⟨"MilkHills$Text", "readOpened", "(I)Z"⟩ ⟨"MilkHills$Text", "readOpened", "(I)Z"⟩ ∈ mh_WT := mh_inP (q := (⟨"MilkHills$Text", "readOpened", "(I)Z"⟩, 10)) (List.mem_of_getElem? (i := 11) (by decide +kernel)) rfl
theorem tp_12 : Cond.selects "MilkHills" ⟨"MilkHills", "refuse", "(I)I"⟩ ⟨"MilkHills", "refuse", "(I)I"⟩ ∈ mh_WT := mh_inP (q := (⟨"MilkHills", "refuse", "(I)I"⟩, 11)) (List.mem_of_getElem? (i := 12) (by decide +kernel)) rfl
theorem tp_13 : Cond.selects "MilkHills" ⟨"MilkHills", "isChurn", "(I)Z"⟩ ⟨"MilkHills", "isChurn", "(I)Z"⟩ ∈ mh_WT := mh_inP (q := (⟨"MilkHills", "isChurn", "(I)Z"⟩, 11)) (List.mem_of_getElem? (i := 13) (by decide +kernel)) rfl
theorem tp_14 : Cond.selects "MilkHills$Relays" ⟨"MilkHills$Relays", "sumUp", "(LMilkHills$World;LMilkHills$Churn;II)V"⟩ ⟨"MilkHills$Relays", "sumUp", "(LMilkHills$World;LMilkHills$Churn;II)V"⟩ ∈ mh_WT := mh_inP (q := (⟨"MilkHills$Relays", "sumUp", "(LMilkHills$World;LMilkHills$Churn;II)V"⟩, 11)) (List.mem_of_getElem? (i := 14) (by decide +kernel)) rfl
theorem tp_15 : Cond.selects "MilkHills$Relays" ⟨"MilkHills$Relays", "forget", "(I)V"⟩ ⟨"MilkHills$Relays", "forget", "(I)V"⟩ ∈ mh_WT := mh_inP (q := (⟨"MilkHills$Relays", "forget", "(I)V"⟩, 11)) (List.mem_of_getElem? (i := 15) (by decide +kernel)) rfl
theorem tp_16 : Cond.selects "MilkHills$Relays" ⟨"MilkHills$Relays", "least", "(III)I"⟩ ⟨"MilkHills$Relays", "least", "(III)I"⟩ ∈ mh_WT := mh_inP (q := (⟨"MilkHills$Relays", "least", "(III)I"⟩, 11)) (List.mem_of_getElem? (i := 16) (by decide +kernel)) rfl
theorem tp_17 : Cond.selects "MilkHills$Relays" ⟨"MilkHills$Relays", "between", "(III)I"⟩ ⟨"MilkHills$Relays", "between", "(III)I"⟩ ∈ mh_WT := mh_inP (q := (⟨"MilkHills$Relays", "between", "(III)I"⟩, 11)) (List.mem_of_getElem? (i := 17) (by decide +kernel)) rfl
theorem tp_18 : Cond.selects "MilkHills$Relays" ⟨"MilkHills$Relays", "firstChoice", "(III)I"⟩ ⟨"MilkHills$Relays", "firstChoice", "(III)I"⟩ ∈ mh_WT := mh_inP (q := (⟨"MilkHills$Relays", "firstChoice", "(III)I"⟩, 11)) (List.mem_of_getElem? (i := 18) (by decide +kernel)) rfl
theorem tp_19 : Cond.selects "MilkHills" ⟨"MilkHills", "whereItTurns", "(LMilkHills$Churn;I)I"⟩ ⟨"MilkHills", "whereItTurns", "(LMilkHills$Churn;I)I"⟩ ∈ mh_WT := mh_inP (q := (⟨"MilkHills", "whereItTurns", "(LMilkHills$Churn;I)I"⟩, 11)) (List.mem_of_getElem? (i := 19) (by decide +kernel)) rfl
theorem tp_20 : Cond.selects "MilkHills" ⟨"MilkHills", "stand", "(III)Z"⟩ ⟨"MilkHills", "stand", "(III)Z"⟩ ∈ mh_WT := mh_inP (q := (⟨"MilkHills", "stand", "(III)Z"⟩, 11)) (List.mem_of_getElem? (i := 20) (by decide +kernel)) rfl
theorem tp_21 : Cond.selects "MilkHills" ⟨"MilkHills", "sourBehindNext", "(I)I"⟩ ⟨"MilkHills", "sourBehindNext", "(I)I"⟩ ∈ mh_WT := mh_inP (q := (⟨"MilkHills", "sourBehindNext", "(I)I"⟩, 11)) (List.mem_of_getElem? (i := 21) (by decide +kernel)) rfl
theorem tp_22 : Cond.selects "MilkHillsModel" ⟨"MilkHillsModel", "error", "(I)I"⟩ ⟨"MilkHillsModel", "error", "(I)I"⟩ ∈ mh_WT := mh_inP (q := (⟨"MilkHillsModel", "error", "(I)I"⟩, 30)) (List.mem_of_getElem? (i := 22) (by decide +kernel)) rfl
theorem tp_23 : Cond.selects "MilkHillsModel" ⟨"MilkHillsModel", "inBrook", "(I)I"⟩ ⟨"MilkHillsModel", "inBrook", "(I)I"⟩ ∈ mh_WT := mh_inP (q := (⟨"MilkHillsModel", "inBrook", "(I)I"⟩, 30)) (List.mem_of_getElem? (i := 23) (by decide +kernel)) rfl
theorem tp_24 : Cond.selects "MilkHillsModel" ⟨"MilkHillsModel", "its", "(II)I"⟩ ⟨"MilkHillsModel", "its", "(II)I"⟩ ∈ mh_WT := mh_inP (q := (⟨"MilkHillsModel", "its", "(II)I"⟩, 30)) (List.mem_of_getElem? (i := 24) (by decide +kernel)) rfl
theorem tp_25 : Cond.selects "MilkHillsModel" ⟨"MilkHillsModel", "ofHillNow", "(II)I"⟩ ⟨"MilkHillsModel", "ofHillNow", "(II)I"⟩ ∈ mh_WT := mh_inP (q := (⟨"MilkHillsModel", "ofHillNow", "(II)I"⟩, 30)) (List.mem_of_getElem? (i := 25) (by decide +kernel)) rfl
theorem tp_26 : Cond.selects "MilkHillsModel" ⟨"MilkHillsModel", "warm", "(II)I"⟩ ⟨"MilkHillsModel", "warm", "(II)I"⟩ ∈ mh_WT := mh_inP (q := (⟨"MilkHillsModel", "warm", "(II)I"⟩, 30)) (List.mem_of_getElem? (i := 26) (by decide +kernel)) rfl
theorem tp_27 : Cond.selects "MilkHillsModel" ⟨"MilkHillsModel", "lawBy", "(IIII)I"⟩ ⟨"MilkHillsModel", "lawBy", "(IIII)I"⟩ ∈ mh_WT := mh_inP (q := (⟨"MilkHillsModel", "lawBy", "(IIII)I"⟩, 30)) (List.mem_of_getElem? (i := 27) (by decide +kernel)) rfl
theorem tp_28 : Cond.selects "MilkHillsModel" ⟨"MilkHillsModel", "worked", "(I)I"⟩ ⟨"MilkHillsModel", "worked", "(I)I"⟩ ∈ mh_WT := mh_inP (q := (⟨"MilkHillsModel", "worked", "(I)I"⟩, 30)) (List.mem_of_getElem? (i := 28) (by decide +kernel)) rfl
theorem tp_29 : Cond.selects "MilkHillsModel" ⟨"MilkHillsModel", "pace", "(I)I"⟩ ⟨"MilkHillsModel", "pace", "(I)I"⟩ ∈ mh_WT := mh_inP (q := (⟨"MilkHillsModel", "pace", "(I)I"⟩, 30)) (List.mem_of_getElem? (i := 29) (by decide +kernel)) rfl
theorem tp_30 : Cond.selects "MilkHillsModel" ⟨"MilkHillsModel", "sets", "(III)V"⟩ ⟨"MilkHillsModel", "sets", "(III)V"⟩ ∈ mh_WT := mh_inP (q := (⟨"MilkHillsModel", "sets", "(III)V"⟩, 30)) (List.mem_of_getElem? (i := 30) (by decide +kernel)) rfl
theorem tp_31 : Cond.selects "MilkHillsModel" ⟨"MilkHillsModel", "anew", "(I)V"⟩ ⟨"MilkHillsModel", "anew", "(I)V"⟩ ∈ mh_WT := mh_inP (q := (⟨"MilkHillsModel", "anew", "(I)V"⟩, 30)) (List.mem_of_getElem? (i := 31) (by decide +kernel)) rfl
theorem tp_32 : Cond.selects "MilkHillsModel" ⟨"MilkHillsModel", "isChurn", "(I)Z"⟩ ⟨"MilkHillsModel", "isChurn", "(I)Z"⟩ ∈ mh_WT := mh_inP (q := (⟨"MilkHillsModel", "isChurn", "(I)Z"⟩, 30)) (List.mem_of_getElem? (i := 32) (by decide +kernel)) rfl
theorem tp_33 : Cond.selects "MilkHillsModel" ⟨"MilkHillsModel", "told", "(II)I"⟩ ⟨"MilkHillsModel", "told", "(II)I"⟩ ∈ mh_WT := mh_inP (q := (⟨"MilkHillsModel", "told", "(II)I"⟩, 30)) (List.mem_of_getElem? (i := 33) (by decide +kernel)) rfl
theorem tp_34 : Cond.selects "MilkHillsModel" ⟨"MilkHillsModel", "stateOf", "(I)I"⟩ ⟨"MilkHillsModel", "stateOf", "(I)I"⟩ ∈ mh_WT := mh_inP (q := (⟨"MilkHillsModel", "stateOf", "(I)I"⟩, 30)) (List.mem_of_getElem? (i := 34) (by decide +kernel)) rfl
theorem tp_35 : Cond.selects "MilkHillsModel" ⟨"MilkHillsModel", "stateBy", "(III)I"⟩ ⟨"MilkHillsModel", "stateBy", "(III)I"⟩ ∈ mh_WT := mh_inP (q := (⟨"MilkHillsModel", "stateBy", "(III)I"⟩, 30)) (List.mem_of_getElem? (i := 35) (by decide +kernel)) rfl
theorem tp_36 : Cond.selects "MilkHillsModel" ⟨"MilkHillsModel", "stands", "(I)Z"⟩ ⟨"MilkHillsModel", "stands", "(I)Z"⟩ ∈ mh_WT := mh_inP (q := (⟨"MilkHillsModel", "stands", "(I)Z"⟩, 30)) (List.mem_of_getElem? (i := 36) (by decide +kernel)) rfl
theorem tp_37 : Cond.selects "MilkHillsModel" ⟨"MilkHillsModel", "leaves", "(II)V"⟩ ⟨"MilkHillsModel", "leaves", "(II)V"⟩ ∈ mh_WT := mh_inP (q := (⟨"MilkHillsModel", "leaves", "(II)V"⟩, 30)) (List.mem_of_getElem? (i := 37) (by decide +kernel)) rfl
theorem tp_38 : Cond.selects "MilkHillsModel" ⟨"MilkHillsModel", "cheese", "(II)I"⟩ ⟨"MilkHillsModel", "cheese", "(II)I"⟩ ∈ mh_WT := mh_inP (q := (⟨"MilkHillsModel", "cheese", "(II)I"⟩, 30)) (List.mem_of_getElem? (i := 38) (by decide +kernel)) rfl
theorem tp_39 : Cond.selects "MilkHillsModel" ⟨"MilkHillsModel", "takes", "(I)V"⟩ ⟨"MilkHillsModel", "takes", "(I)V"⟩ ∈ mh_WT := mh_inP (q := (⟨"MilkHillsModel", "takes", "(I)V"⟩, 30)) (List.mem_of_getElem? (i := 39) (by decide +kernel)) rfl
theorem tp_40 : Cond.selects "MilkHillsModel" ⟨"MilkHillsModel", "t", "()V"⟩ ⟨"MilkHillsModel", "t", "()V"⟩ ∈ mh_WT := mh_inP (q := (⟨"MilkHillsModel", "t", "()V"⟩, 30)) (List.mem_of_getElem? (i := 40) (by decide +kernel)) rfl
theorem tp_41 : Cond.selects "MilkHillsModel" ⟨"MilkHillsModel", "a", "()V"⟩ ⟨"MilkHillsModel", "a", "()V"⟩ ∈ mh_WT := mh_inP (q := (⟨"MilkHillsModel", "a", "()V"⟩, 30)) (List.mem_of_getElem? (i := 41) (by decide +kernel)) rfl
theorem tp_42 : Cond.selects "MilkHillsModel" ⟨"MilkHillsModel", "b", "()V"⟩ ⟨"MilkHillsModel", "b", "()V"⟩ ∈ mh_WT := mh_inP (q := (⟨"MilkHillsModel", "b", "()V"⟩, 30)) (List.mem_of_getElem? (i := 42) (by decide +kernel)) rfl
theorem tp_43 : Cond.selects "MilkHillsModel" ⟨"MilkHillsModel", "sum", "()V"⟩ ⟨"MilkHillsModel", "sum", "()V"⟩ ∈ mh_WT := mh_inP (q := (⟨"MilkHillsModel", "sum", "()V"⟩, 30)) (List.mem_of_getElem? (i := 43) (by decide +kernel)) rfl
theorem tp_44 : Cond.selects "MilkHillsModel" ⟨"MilkHillsModel", "p", "()V"⟩ ⟨"MilkHillsModel", "p", "()V"⟩ ∈ mh_WT := mh_inP (q := (⟨"MilkHillsModel", "p", "()V"⟩, 30)) (List.mem_of_getElem? (i := 44) (by decide +kernel)) rfl
theorem tp_45 : Cond.selects "MilkHillsModel" ⟨"MilkHillsModel", "q", "()V"⟩ ⟨"MilkHillsModel", "q", "()V"⟩ ∈ mh_WT := mh_inP (q := (⟨"MilkHillsModel", "q", "()V"⟩, 30)) (List.mem_of_getElem? (i := 45) (by decide +kernel)) rfl
theorem tp_46 : Cond.selects "MilkHillsModel" ⟨"MilkHillsModel", "nameHere", "()I"⟩ ⟨"MilkHillsModel", "nameHere", "()I"⟩ ∈ mh_WT := mh_inP (q := (⟨"MilkHillsModel", "nameHere", "()I"⟩, 30)) (List.mem_of_getElem? (i := 46) (by decide +kernel)) rfl
theorem tp_47 : Cond.selects "MilkHillsModel" ⟨"MilkHillsModel", "here", "()I"⟩ ⟨"MilkHillsModel", "here", "()I"⟩ ∈ mh_WT := mh_inP (q := (⟨"MilkHillsModel", "here", "()I"⟩, 30)) (List.mem_of_getElem? (i := 47) (by decide +kernel)) rfl
theorem tp_48 : Cond.selects "MilkHillsModel" ⟨"MilkHillsModel", "isDigit", "()Z"⟩ ⟨"MilkHillsModel", "isDigit", "()Z"⟩ ∈ mh_WT := mh_inP (q := (⟨"MilkHillsModel", "isDigit", "()Z"⟩, 30)) (List.mem_of_getElem? (i := 48) (by decide +kernel)) rfl
theorem tp_49 : Cond.selects "MilkHillsModel" ⟨"MilkHillsModel", "numberRead", "()V"⟩ ⟨"MilkHillsModel", "numberRead", "()V"⟩ ∈ mh_WT := mh_inP (q := (⟨"MilkHillsModel", "numberRead", "()V"⟩, 30)) (List.mem_of_getElem? (i := 49) (by decide +kernel)) rfl
theorem tp_50 : Cond.selects "MilkHillsModel" ⟨"MilkHillsModel", "puts", "(I)V"⟩ ⟨"MilkHillsModel", "puts", "(I)V"⟩ ∈ mh_WT := mh_inP (q := (⟨"MilkHillsModel", "puts", "(I)V"⟩, 30)) (List.mem_of_getElem? (i := 50) (by decide +kernel)) rfl
theorem tp_51 : Cond.selects "MilkHillsModel" ⟨"MilkHillsModel", "opens", "()V"⟩ ⟨"MilkHillsModel", "opens", "()V"⟩ ∈ mh_WT := mh_inP (q := (⟨"MilkHillsModel", "opens", "()V"⟩, 30)) (List.mem_of_getElem? (i := 51) (by decide +kernel)) rfl
theorem tp_52 : Cond.selects "MilkHillsModel" ⟨"MilkHillsModel", "takes", "(C)Z"⟩ ⟨"MilkHillsModel", "takes", "(C)Z"⟩ ∈ mh_WT := mh_inP (q := (⟨"MilkHillsModel", "takes", "(C)Z"⟩, 30)) (List.mem_of_getElem? (i := 52) (by decide +kernel)) rfl
theorem tp_53 : Cond.selects "MilkHillsModel" ⟨"MilkHillsModel", "aQuarter", "()V"⟩ ⟨"MilkHillsModel", "aQuarter", "()V"⟩ ∈ mh_WT := mh_inP (q := (⟨"MilkHillsModel", "aQuarter", "()V"⟩, 30)) (List.mem_of_getElem? (i := 53) (by decide +kernel)) rfl
theorem tp_54 : Cond.selects "MilkHillsModel" ⟨"MilkHillsModel", "goesOn", "(I)V"⟩ ⟨"MilkHillsModel", "goesOn", "(I)V"⟩ ∈ mh_WT := mh_inP (q := (⟨"MilkHillsModel", "goesOn", "(I)V"⟩, 30)) (List.mem_of_getElem? (i := 54) (by decide +kernel)) rfl
theorem tp_55 : Cond.selects "MilkHillsModel" ⟨"MilkHillsModel", "sours", "(II)V"⟩ ⟨"MilkHillsModel", "sours", "(II)V"⟩ ∈ mh_WT := mh_inP (q := (⟨"MilkHillsModel", "sours", "(II)V"⟩, 30)) (List.mem_of_getElem? (i := 55) (by decide +kernel)) rfl
theorem tp_56 : Cond.selects "MilkHillsModel" ⟨"MilkHillsModel", "shake", "(I)I"⟩ ⟨"MilkHillsModel", "shake", "(I)I"⟩ ∈ mh_WT := mh_inP (q := (⟨"MilkHillsModel", "shake", "(I)I"⟩, 30)) (List.mem_of_getElem? (i := 56) (by decide +kernel)) rfl
theorem tp_57 : Cond.selects "MilkHillsModel" ⟨"MilkHillsModel", "comes", "(I)V"⟩ ⟨"MilkHillsModel", "comes", "(I)V"⟩ ∈ mh_WT := mh_inP (q := (⟨"MilkHillsModel", "comes", "(I)V"⟩, 30)) (List.mem_of_getElem? (i := 57) (by decide +kernel)) rfl
theorem tp_58 : Cond.selects "MilkHillsModel" ⟨"MilkHillsModel", "worth", "(III)I"⟩ ⟨"MilkHillsModel", "worth", "(III)I"⟩ ∈ mh_WT := mh_inP (q := (⟨"MilkHillsModel", "worth", "(III)I"⟩, 30)) (List.mem_of_getElem? (i := 58) (by decide +kernel)) rfl
theorem tp_59 : Cond.selects "MilkHillsModel" ⟨"MilkHillsModel", "draw", "()I"⟩ ⟨"MilkHillsModel", "draw", "()I"⟩ ∈ mh_WT := mh_inP (q := (⟨"MilkHillsModel", "draw", "()I"⟩, 30)) (List.mem_of_getElem? (i := 59) (by decide +kernel)) rfl
theorem tp_60 : Cond.selects "MilkHillsModel" ⟨"MilkHillsModel", "thunders", "()I"⟩ ⟨"MilkHillsModel", "thunders", "()I"⟩ ∈ mh_WT := mh_inP (q := (⟨"MilkHillsModel", "thunders", "()I"⟩, 30)) (List.mem_of_getElem? (i := 60) (by decide +kernel)) rfl
theorem tp_61 : Cond.selects "MilkHillsModel" ⟨"MilkHillsModel", "lends", "()V"⟩ ⟨"MilkHillsModel", "lends", "()V"⟩ ∈ mh_WT := mh_inP (q := (⟨"MilkHillsModel", "lends", "()V"⟩, 30)) (List.mem_of_getElem? (i := 61) (by decide +kernel)) rfl
theorem tp_62 : Cond.selects "MilkHillsModel" ⟨"MilkHillsModel", "laysBack", "()V"⟩ ⟨"MilkHillsModel", "laysBack", "()V"⟩ ∈ mh_WT := mh_inP (q := (⟨"MilkHillsModel", "laysBack", "()V"⟩, 30)) (List.mem_of_getElem? (i := 62) (by decide +kernel)) rfl
theorem tp_63 : Cond.selects "MilkHillsModel" ⟨"MilkHillsModel", "mayRelay", "(I)Z"⟩ ⟨"MilkHillsModel", "mayRelay", "(I)Z"⟩ ∈ mh_WT := mh_inP (q := (⟨"MilkHillsModel", "mayRelay", "(I)Z"⟩, 30)) (List.mem_of_getElem? (i := 63) (by decide +kernel)) rfl
theorem tp_64 : Cond.selects "MilkHillsModel" ⟨"MilkHillsModel", "relayed", "(II)I"⟩ ⟨"MilkHillsModel", "relayed", "(II)I"⟩ ∈ mh_WT := mh_inP (q := (⟨"MilkHillsModel", "relayed", "(II)I"⟩, 30)) (List.mem_of_getElem? (i := 64) (by decide +kernel)) rfl
theorem tp_65 : Cond.selects "MilkHillsModel" ⟨"MilkHillsModel", "findWarmed", "(I)V"⟩ ⟨"MilkHillsModel", "findWarmed", "(I)V"⟩ ∈ mh_WT := mh_inP (q := (⟨"MilkHillsModel", "findWarmed", "(I)V"⟩, 30)) (List.mem_of_getElem? (i := 65) (by decide +kernel)) rfl
theorem tp_66 : Cond.selects "MilkHillsModel" ⟨"MilkHillsModel", "leastFrom", "(IIIII)I"⟩ ⟨"MilkHillsModel", "leastFrom", "(IIIII)I"⟩ ∈ mh_WT := mh_inP (q := (⟨"MilkHillsModel", "leastFrom", "(IIIII)I"⟩, 30)) (List.mem_of_getElem? (i := 66) (by decide +kernel)) rfl
theorem tp_67 : Cond.selects "MilkHillsModel" ⟨"MilkHillsModel", "leastBy", "(IIIIIII)I"⟩ ⟨"MilkHillsModel", "leastBy", "(IIIIIII)I"⟩ ∈ mh_WT := mh_inP (q := (⟨"MilkHillsModel", "leastBy", "(IIIIIII)I"⟩, 30)) (List.mem_of_getElem? (i := 67) (by decide +kernel)) rfl
theorem tp_68 : Cond.selects "MilkHillsModel" ⟨"MilkHillsModel", "warmedIn", "(III)I"⟩ ⟨"MilkHillsModel", "warmedIn", "(III)I"⟩ ∈ mh_WT := mh_inP (q := (⟨"MilkHillsModel", "warmedIn", "(III)I"⟩, 30)) (List.mem_of_getElem? (i := 68) (by decide +kernel)) rfl
theorem tp_69 : Cond.selects "MilkHillsModel" ⟨"MilkHillsModel", "wayAt", "(III)I"⟩ ⟨"MilkHillsModel", "wayAt", "(III)I"⟩ ∈ mh_WT := mh_inP (q := (⟨"MilkHillsModel", "wayAt", "(III)I"⟩, 30)) (List.mem_of_getElem? (i := 69) (by decide +kernel)) rfl
theorem tp_70 : Cond.selects "MilkHillsModel" ⟨"MilkHillsModel", "begins", "(IIIZ)V"⟩ ⟨"MilkHillsModel", "begins", "(IIIZ)V"⟩ ∈ mh_WT := mh_inP (q := (⟨"MilkHillsModel", "begins", "(IIIZ)V"⟩, 30)) (List.mem_of_getElem? (i := 70) (by decide +kernel)) rfl
theorem tp_71 : Cond.selects "MilkHillsModel" ⟨"MilkHillsModel", "straight", "(II)V"⟩ ⟨"MilkHillsModel", "straight", "(II)V"⟩ ∈ mh_WT := mh_inP (q := (⟨"MilkHillsModel", "straight", "(II)V"⟩, 30)) (List.mem_of_getElem? (i := 71) (by decide +kernel)) rfl
theorem tp_72 : Cond.selects "MilkHillsModel" ⟨"MilkHillsModel", "straightOn", "(II)V"⟩ ⟨"MilkHillsModel", "straightOn", "(II)V"⟩ ∈ mh_WT := mh_inP (q := (⟨"MilkHillsModel", "straightOn", "(II)V"⟩, 30)) (List.mem_of_getElem? (i := 72) (by decide +kernel)) rfl
theorem tp_73 : Cond.selects "MilkHillsModel" ⟨"MilkHillsModel", "fills", "(I)I"⟩ ⟨"MilkHillsModel", "fills", "(I)I"⟩ ∈ mh_WT := mh_inP (q := (⟨"MilkHillsModel", "fills", "(I)I"⟩, 30)) (List.mem_of_getElem? (i := 73) (by decide +kernel)) rfl
theorem tp_74 : Cond.selects "MilkHillsModel" ⟨"MilkHillsModel", "runs", "(I)V"⟩ ⟨"MilkHillsModel", "runs", "(I)V"⟩ ∈ mh_WT := mh_inP (q := (⟨"MilkHillsModel", "runs", "(I)V"⟩, 30)) (List.mem_of_getElem? (i := 74) (by decide +kernel)) rfl
theorem tp_75 : Cond.selects "MilkHillsModel" ⟨"MilkHillsModel", "shakes", "(I)I"⟩ ⟨"MilkHillsModel", "shakes", "(I)I"⟩ ∈ mh_WT := mh_inP (q := (⟨"MilkHillsModel", "shakes", "(I)I"⟩, 30)) (List.mem_of_getElem? (i := 75) (by decide +kernel)) rfl
theorem tp_76 : Cond.selects "MilkHillsModel" ⟨"MilkHillsModel", "goatsShakes", "(I)I"⟩ ⟨"MilkHillsModel", "goatsShakes", "(I)I"⟩ ∈ mh_WT := mh_inP (q := (⟨"MilkHillsModel", "goatsShakes", "(I)I"⟩, 30)) (List.mem_of_getElem? (i := 76) (by decide +kernel)) rfl
theorem tp_77 : Cond.selects "MilkHillsModel" ⟨"MilkHillsModel", "plainShakes", "(I)I"⟩ ⟨"MilkHillsModel", "plainShakes", "(I)I"⟩ ∈ mh_WT := mh_inP (q := (⟨"MilkHillsModel", "plainShakes", "(I)I"⟩, 30)) (List.mem_of_getElem? (i := 77) (by decide +kernel)) rfl
theorem tp_78 : Cond.selects "MilkHillsModel" ⟨"MilkHillsModel", "cools", "(I)I"⟩ ⟨"MilkHillsModel", "cools", "(I)I"⟩ ∈ mh_WT := mh_inP (q := (⟨"MilkHillsModel", "cools", "(I)I"⟩, 30)) (List.mem_of_getElem? (i := 78) (by decide +kernel)) rfl
theorem tp_79 : Cond.selects "MilkHillsModel" ⟨"MilkHillsModel", "creamedCools", "(I)I"⟩ ⟨"MilkHillsModel", "creamedCools", "(I)I"⟩ ∈ mh_WT := mh_inP (q := (⟨"MilkHillsModel", "creamedCools", "(I)I"⟩, 30)) (List.mem_of_getElem? (i := 79) (by decide +kernel)) rfl
theorem tp_80 : Cond.selects "MilkHillsModel" ⟨"MilkHillsModel", "plainCools", "(I)I"⟩ ⟨"MilkHillsModel", "plainCools", "(I)I"⟩ ∈ mh_WT := mh_inP (q := (⟨"MilkHillsModel", "plainCools", "(I)I"⟩, 30)) (List.mem_of_getElem? (i := 80) (by decide +kernel)) rfl
theorem tp_81 : Cond.selects "MilkHillsModel" ⟨"MilkHillsModel", "tells", "(I)I"⟩ ⟨"MilkHillsModel", "tells", "(I)I"⟩ ∈ mh_WT := mh_inP (q := (⟨"MilkHillsModel", "tells", "(I)I"⟩, 30)) (List.mem_of_getElem? (i := 81) (by decide +kernel)) rfl
theorem tp_82 : Cond.selects "MilkHillsModel" ⟨"MilkHillsModel", "plainTells", "(I)I"⟩ ⟨"MilkHillsModel", "plainTells", "(I)I"⟩ ∈ mh_WT := mh_inP (q := (⟨"MilkHillsModel", "plainTells", "(I)I"⟩, 30)) (List.mem_of_getElem? (i := 82) (by decide +kernel)) rfl
theorem tp_83 : Cond.selects "MilkHillsModel" ⟨"MilkHillsModel", "lacks", "(I)I"⟩ ⟨"MilkHillsModel", "lacks", "(I)I"⟩ ∈ mh_WT := mh_inP (q := (⟨"MilkHillsModel", "lacks", "(I)I"⟩, 30)) (List.mem_of_getElem? (i := 83) (by decide +kernel)) rfl
theorem tp_84 : Cond.selects "MilkHillsModel" ⟨"MilkHillsModel", "allSour", "()I"⟩ ⟨"MilkHillsModel", "allSour", "()I"⟩ ∈ mh_WT := mh_inP (q := (⟨"MilkHillsModel", "allSour", "()I"⟩, 30)) (List.mem_of_getElem? (i := 84) (by decide +kernel)) rfl
theorem tp_85 : Cond.selects "MilkHillsModel" ⟨"MilkHillsModel", "howMany", "(I)I"⟩ ⟨"MilkHillsModel", "howMany", "(I)I"⟩ ∈ mh_WT := mh_inP (q := (⟨"MilkHillsModel", "howMany", "(I)I"⟩, 30)) (List.mem_of_getElem? (i := 85) (by decide +kernel)) rfl
theorem tp_86 : Cond.selects "MilkHillsModel" ⟨"MilkHillsModel", "sweet", "()I"⟩ ⟨"MilkHillsModel", "sweet", "()I"⟩ ∈ mh_WT := mh_inP (q := (⟨"MilkHillsModel", "sweet", "()I"⟩, 30)) (List.mem_of_getElem? (i := 86) (by decide +kernel)) rfl
theorem mh_ok5 {a b c d e : Cond} (h1 : a ∈ mh_WT) (h2 : b ∈ mh_WT) (h3 : c ∈ mh_WT) (h4 : d ∈ mh_WT) (h5 : e ∈ mh_WT) : mh_ok [a, b, c, d, e] := by
  intro w hw
  simp only [List.mem_cons, List.not_mem_nil, or_false] at hw
  rcases hw with rfl | rfl | rfl | rfl | rfl <;> assumption
theorem mh_ok4 {a b c d : Cond} (h1 : a ∈ mh_WT) (h2 : b ∈ mh_WT) (h3 : c ∈ mh_WT) (h4 : d ∈ mh_WT) : mh_ok [a, b, c, d] := by
  intro w hw
  simp only [List.mem_cons, List.not_mem_nil, or_false] at hw
  rcases hw with rfl | rfl | rfl | rfl <;> assumption
theorem mh_ok6 {a b c d e f : Cond} (h1 : a ∈ mh_WT) (h2 : b ∈ mh_WT) (h3 : c ∈ mh_WT) (h4 : d ∈ mh_WT) (h5 : e ∈ mh_WT) (h6 : f ∈ mh_WT) : mh_ok [a, b, c, d, e, f] := by
  intro w hw
  simp only [List.mem_cons, List.not_mem_nil, or_false] at hw
  rcases hw with rfl | rfl | rfl | rfl | rfl | rfl <;> assumption
theorem mh_ok8 {a b c d e f g i : Cond} (h1 : a ∈ mh_WT) (h2 : b ∈ mh_WT) (h3 : c ∈ mh_WT) (h4 : d ∈ mh_WT) (h5 : e ∈ mh_WT) (h6 : f ∈ mh_WT) (h7 : g ∈ mh_WT) (h8 : i ∈ mh_WT) : mh_ok [a, b, c, d, e, f, g, i] := by
  intro w hw
  simp only [List.mem_cons, List.not_mem_nil, or_false] at hw
  rcases hw with rfl | rfl | rfl | rfl | rfl | rfl | rfl | rfl <;> assumption
theorem np_yX11_init : mh_np yX11_init 0 := ⟨by decide +kernel, by decide +kernel, by decide +kernel⟩
theorem np_yX3_init : mh_np yX3_init 1 := ⟨by decide +kernel, by decide +kernel, by decide +kernel⟩
theorem np_yX2_init : mh_np yX2_init 1 := ⟨by decide +kernel, by decide +kernel, by decide +kernel⟩
theorem np_yX4_init : mh_np yX4_init 1 := ⟨by decide +kernel, by decide +kernel, by decide +kernel⟩
theorem np_yX1_init : mh_np yX1_init 1 := ⟨by decide +kernel, by decide +kernel, by decide +kernel⟩
theorem np_yX7_init : mh_np yX7_init 1 := ⟨by decide +kernel, by decide +kernel, by decide +kernel⟩
theorem np_yX8_init : mh_np yX8_init 1 := ⟨by decide +kernel, by decide +kernel, by decide +kernel⟩
theorem np_yX5_init : mh_np yX5_init 1 := ⟨by decide +kernel, by decide +kernel, by decide +kernel⟩
theorem np_yX6_init : mh_np yX6_init 0 := ⟨by decide +kernel, by decide +kernel, by decide +kernel⟩
theorem np_yX10_init : mh_np yX10_init 1 := ⟨by decide +kernel, by decide +kernel, by decide +kernel⟩
theorem np_yX9_init : mh_np yX9_init 3 := ⟨by decide +kernel, by decide +kernel, by decide +kernel⟩
theorem np_yJ0_length_8abf5 : mh_np yJ0_length_8abf5 0 := ⟨by decide +kernel, by decide +kernel, by decide +kernel⟩
theorem np_yJ0_coder_7d493 : mh_np yJ0_coder_7d493 0 := ⟨by decide +kernel, by decide +kernel, by decide +kernel⟩
theorem np_yJ0_charAt_5068e : mh_np yJ0_charAt_5068e 1 := ⟨by decide +kernel, by decide +kernel, by decide +kernel⟩
theorem np_yJ0_isLatin1_aae02 : mh_np yJ0_isLatin1_aae02 0 := ⟨by decide +kernel, by decide +kernel, by decide +kernel⟩
theorem np_yJ1_charAt_3b067 : mh_np yJ1_charAt_3b067 2 := ⟨by decide +kernel, by decide +kernel, by decide +kernel⟩
theorem np_yJ0_checkIndex_df160 : mh_np yJ0_checkIndex_df160 2 := ⟨by decide +kernel, by decide +kernel, by decide +kernel⟩
theorem np_yJ3_checkIndex_8e157 : mh_np yJ3_checkIndex_8e157 3 := ⟨by decide +kernel, by decide +kernel, by decide +kernel⟩
theorem np_yJ2_charAt_3b067 : mh_np yJ2_charAt_3b067 2 := ⟨by decide +kernel, by decide +kernel, by decide +kernel⟩
theorem np_yJ2_checkIndex_2214a : mh_np yJ2_checkIndex_2214a 2 := ⟨by decide +kernel, by decide +kernel, by decide +kernel⟩
theorem np_yJ2_length_9d52b : mh_np yJ2_length_9d52b 1 := ⟨by decide +kernel, by decide +kernel, by decide +kernel⟩
theorem np_yJ2_getChar_3b067 : mh_np yJ2_getChar_3b067 2 := ⟨by decide +kernel, by decide +kernel, by decide +kernel⟩
theorem np_yX9_read : mh_np yX9_read 2 := ⟨by decide +kernel, by decide +kernel, by decide +kernel⟩
theorem np_yJ9_min_7cf53 : mh_np yJ9_min_7cf53 2 := ⟨by decide +kernel, by decide +kernel, by decide +kernel⟩
theorem np_yJ9_max_7cf53 : mh_np yJ9_max_7cf53 2 := ⟨by decide +kernel, by decide +kernel, by decide +kernel⟩
theorem np_yX9_readAny : mh_np yX9_readAny 1 := ⟨by decide +kernel, by decide +kernel, by decide +kernel⟩
theorem np_yX9_readAll : mh_np yX9_readAll 1 := ⟨by decide +kernel, by decide +kernel, by decide +kernel⟩
theorem np_yX9_readCompared : mh_np yX9_readCompared 1 := ⟨by decide +kernel, by decide +kernel, by decide +kernel⟩
theorem np_yX9_readSum : mh_np yX9_readSum 1 := ⟨by decide +kernel, by decide +kernel, by decide +kernel⟩
theorem np_yX9_readProduct : mh_np yX9_readProduct 1 := ⟨by decide +kernel, by decide +kernel, by decide +kernel⟩
theorem np_yX9_readSingle : mh_np yX9_readSingle 1 := ⟨by decide +kernel, by decide +kernel, by decide +kernel⟩
theorem np_yX9_seesDigit : mh_np yX9_seesDigit 0 := ⟨by decide +kernel, by decide +kernel, by decide +kernel⟩
theorem np_yX9_next : mh_np yX9_next 0 := ⟨by decide +kernel, by decide +kernel, by decide +kernel⟩
theorem np_yX9_readNumber : mh_np yX9_readNumber 0 := ⟨by decide +kernel, by decide +kernel, by decide +kernel⟩
theorem np_yX9_write : mh_np yX9_write 1 := ⟨by decide +kernel, by decide +kernel, by decide +kernel⟩
theorem np_yX9_sees : mh_np yX9_sees 1 := ⟨by decide +kernel, by decide +kernel, by decide +kernel⟩
theorem np_yX9_readOpened : mh_np yX9_readOpened 1 := ⟨by decide +kernel, by decide +kernel, by decide +kernel⟩
theorem np_yJ0_indexOf_0f7a4 : mh_np yJ0_indexOf_0f7a4 1 := ⟨by decide +kernel, by decide +kernel, by decide +kernel⟩
theorem np_yJ0_indexOf_7cf53 : mh_np yJ0_indexOf_7cf53 2 := ⟨by decide +kernel, by decide +kernel, by decide +kernel⟩
theorem np_yJ1_indexOf_4cfef : mh_np yJ1_indexOf_4cfef 4 := ⟨by decide +kernel, by decide +kernel, by decide +kernel⟩
theorem np_yJ1_canEncode_9a6ad : mh_np yJ1_canEncode_9a6ad 1 := ⟨by decide +kernel, by decide +kernel, by decide +kernel⟩
theorem np_yJ1_indexOfChar_4cfef : mh_np yJ1_indexOfChar_4cfef 4 := ⟨by decide +kernel, by decide +kernel, by decide +kernel⟩
theorem np_yJ2_indexOf_4cfef : mh_np yJ2_indexOf_4cfef 4 := ⟨by decide +kernel, by decide +kernel, by decide +kernel⟩
theorem np_yJ2_indexOfChar_4cfef : mh_np yJ2_indexOfChar_4cfef 4 := ⟨by decide +kernel, by decide +kernel, by decide +kernel⟩
theorem np_yJ2_checkBoundsBeginEnd_d044e : mh_np yJ2_checkBoundsBeginEnd_d044e 3 := ⟨by decide +kernel, by decide +kernel, by decide +kernel⟩
theorem np_yJ0_checkBoundsBeginEnd_23922 : mh_np yJ0_checkBoundsBeginEnd_23922 3 := ⟨by decide +kernel, by decide +kernel, by decide +kernel⟩
theorem np_yJ3_checkFromToIndex_8c36e : mh_np yJ3_checkFromToIndex_8c36e 4 := ⟨by decide +kernel, by decide +kernel, by decide +kernel⟩
theorem np_yJ2_indexOfCharUnsafe_4cfef : mh_np yJ2_indexOfCharUnsafe_4cfef 4 := ⟨by decide +kernel, by decide +kernel, by decide +kernel⟩
theorem np_yJ2_indexOfSupplementary_4cfef : mh_np yJ2_indexOfSupplementary_4cfef 4 := ⟨by decide +kernel, by decide +kernel, by decide +kernel⟩
theorem np_yJ11_isValidCodePoint_9a6ad : mh_np yJ11_isValidCodePoint_9a6ad 1 := ⟨by decide +kernel, by decide +kernel, by decide +kernel⟩
theorem np_yJ11_highSurrogate_5068e : mh_np yJ11_highSurrogate_5068e 1 := ⟨by decide +kernel, by decide +kernel, by decide +kernel⟩
theorem np_yJ11_lowSurrogate_5068e : mh_np yJ11_lowSurrogate_5068e 1 := ⟨by decide +kernel, by decide +kernel, by decide +kernel⟩
theorem np_yJ7_fill_53178 : mh_np yJ7_fill_53178 2 := ⟨by decide +kernel, by decide +kernel, by decide +kernel⟩
theorem np_yX0_init : mh_np yX0_init 2 := ⟨by decide +kernel, by decide +kernel, by decide +kernel⟩
theorem np_yX11_hill : mh_np yX11_hill 3 := ⟨by decide +kernel, by decide +kernel, by decide +kernel⟩
theorem np_yX11_within : mh_np yX11_within 3 := ⟨by decide +kernel, by decide +kernel, by decide +kernel⟩
theorem np_yX11_mostOfHill : mh_np yX11_mostOfHill 1 := ⟨by decide +kernel, by decide +kernel, by decide +kernel⟩
theorem np_yX11_refuse : mh_np yX11_refuse 1 := ⟨by decide +kernel, by decide +kernel, by decide +kernel⟩
theorem np_yX10_inBrook : mh_np yX10_inBrook 1 := ⟨by decide +kernel, by decide +kernel, by decide +kernel⟩
theorem np_yX11_ofHill : mh_np yX11_ofHill 2 := ⟨by decide +kernel, by decide +kernel, by decide +kernel⟩
theorem np_yX10_warm : mh_np yX10_warm 2 := ⟨by decide +kernel, by decide +kernel, by decide +kernel⟩
theorem np_yX9_value : mh_np yX9_value 3 := ⟨by decide +kernel, by decide +kernel, by decide +kernel⟩
theorem np_yX9_bit : mh_np yX9_bit 1 := ⟨by decide +kernel, by decide +kernel, by decide +kernel⟩
theorem np_yX9_joined : mh_np yX9_joined 3 := ⟨by decide +kernel, by decide +kernel, by decide +kernel⟩
theorem np_yX11_carrier : mh_np yX11_carrier 3 := ⟨by decide +kernel, by decide +kernel, by decide +kernel⟩
theorem np_yX11_isCarrier : mh_np yX11_isCarrier 1 := ⟨by decide +kernel, by decide +kernel, by decide +kernel⟩
theorem np_yX11_churn : mh_np yX11_churn 1 := ⟨by decide +kernel, by decide +kernel, by decide +kernel⟩
theorem np_yX0_renew : mh_np yX0_renew 0 := ⟨by decide +kernel, by decide +kernel, by decide +kernel⟩
theorem np_yX11_ofChurn : mh_np yX11_ofChurn 2 := ⟨by decide +kernel, by decide +kernel, by decide +kernel⟩
theorem np_yX11_isChurn : mh_np yX11_isChurn 1 := ⟨by decide +kernel, by decide +kernel, by decide +kernel⟩
theorem np_yX0_answer : mh_np yX0_answer 1 := ⟨by decide +kernel, by decide +kernel, by decide +kernel⟩
theorem np_yX0_state : mh_np yX0_state 0 := ⟨by decide +kernel, by decide +kernel, by decide +kernel⟩
theorem np_yX2_turns : mh_np yX2_turns 1 := ⟨by decide +kernel, by decide +kernel, by decide +kernel⟩
theorem np_yX7_turns : mh_np yX7_turns 1 := ⟨by decide +kernel, by decide +kernel, by decide +kernel⟩
theorem np_yX8_turns : mh_np yX8_turns 1 := ⟨by decide +kernel, by decide +kernel, by decide +kernel⟩
theorem np_yX3_turns : mh_np yX3_turns 1 := ⟨by decide +kernel, by decide +kernel, by decide +kernel⟩
theorem np_yX11_become : mh_np yX11_become 2 := ⟨by decide +kernel, by decide +kernel, by decide +kernel⟩
theorem np_yX11_as : mh_np yX11_as 2 := ⟨by decide +kernel, by decide +kernel, by decide +kernel⟩
theorem np_yX3_isUnder : mh_np yX3_isUnder 1 := ⟨by decide +kernel, by decide +kernel, by decide +kernel⟩
theorem np_yX11_go : mh_np yX11_go 2 := ⟨by decide +kernel, by decide +kernel, by decide +kernel⟩
theorem np_yX0_stands : mh_np yX0_stands 0 := ⟨by decide +kernel, by decide +kernel, by decide +kernel⟩
theorem np_yX10_setOff : mh_np yX10_setOff 2 := ⟨by decide +kernel, by decide +kernel, by decide +kernel⟩
theorem np_yX11_brook : mh_np yX11_brook 1 := ⟨by decide +kernel, by decide +kernel, by decide +kernel⟩
theorem np_yX10_room : mh_np yX10_room 1 := ⟨by decide +kernel, by decide +kernel, by decide +kernel⟩
theorem np_yX11_rest : mh_np yX11_rest 1 := ⟨by decide +kernel, by decide +kernel, by decide +kernel⟩
theorem np_yX11_giveUp : mh_np yX11_giveUp 1 := ⟨by decide +kernel, by decide +kernel, by decide +kernel⟩
theorem np_yX10_cheesePrice : mh_np yX10_cheesePrice 1 := ⟨by decide +kernel, by decide +kernel, by decide +kernel⟩
theorem np_yX10_takeIn : mh_np yX10_takeIn 1 := ⟨by decide +kernel, by decide +kernel, by decide +kernel⟩
theorem np_yX11_refill : mh_np yX11_refill 1 := ⟨by decide +kernel, by decide +kernel, by decide +kernel⟩
theorem np_yX11_feed : mh_np yX11_feed 2 := ⟨by decide +kernel, by decide +kernel, by decide +kernel⟩
theorem np_yX11_text : mh_np yX11_text 1 := ⟨by decide +kernel, by decide +kernel, by decide +kernel⟩
theorem np_yX10_lawOf : mh_np yX10_lawOf 1 := ⟨by decide +kernel, by decide +kernel, by decide +kernel⟩
theorem np_yX11_law : mh_np yX11_law 4 := ⟨by decide +kernel, by decide +kernel, by decide +kernel⟩
theorem np_yX11_quarters : mh_np yX11_quarters 1 := ⟨by decide +kernel, by decide +kernel, by decide +kernel⟩
theorem np_yX10_passQuarter : mh_np yX10_passQuarter 0 := ⟨by decide +kernel, by decide +kernel, by decide +kernel⟩
theorem np_yX10_pass : mh_np yX10_pass 2 := ⟨by decide +kernel, by decide +kernel, by decide +kernel⟩
theorem np_yX2_warms : mh_np yX2_warms 2 := ⟨by decide +kernel, by decide +kernel, by decide +kernel⟩
theorem np_yX4_warms : mh_np yX4_warms 2 := ⟨by decide +kernel, by decide +kernel, by decide +kernel⟩
theorem np_yX5_warms : mh_np yX5_warms 2 := ⟨by decide +kernel, by decide +kernel, by decide +kernel⟩
theorem np_yX8_warms : mh_np yX8_warms 2 := ⟨by decide +kernel, by decide +kernel, by decide +kernel⟩
theorem np_yX3_warms : mh_np yX3_warms 2 := ⟨by decide +kernel, by decide +kernel, by decide +kernel⟩
theorem np_yX0_sourBy : mh_np yX0_sourBy 1 := ⟨by decide +kernel, by decide +kernel, by decide +kernel⟩
theorem np_yX1_jolts : mh_np yX1_jolts 2 := ⟨by decide +kernel, by decide +kernel, by decide +kernel⟩
theorem np_yX5_jolts : mh_np yX5_jolts 2 := ⟨by decide +kernel, by decide +kernel, by decide +kernel⟩
theorem np_yX7_jolts : mh_np yX7_jolts 2 := ⟨by decide +kernel, by decide +kernel, by decide +kernel⟩
theorem np_yX3_jolts : mh_np yX3_jolts 2 := ⟨by decide +kernel, by decide +kernel, by decide +kernel⟩
theorem np_yX0_shakeBy : mh_np yX0_shakeBy 1 := ⟨by decide +kernel, by decide +kernel, by decide +kernel⟩
theorem np_yX10_worth : mh_np yX10_worth 1 := ⟨by decide +kernel, by decide +kernel, by decide +kernel⟩
theorem np_yX11_days : mh_np yX11_days 1 := ⟨by decide +kernel, by decide +kernel, by decide +kernel⟩
theorem np_yX10_draw : mh_np yX10_draw 0 := ⟨by decide +kernel, by decide +kernel, by decide +kernel⟩
theorem np_yX10_strike : mh_np yX10_strike 0 := ⟨by decide +kernel, by decide +kernel, by decide +kernel⟩
theorem np_yX11_thunder : mh_np yX11_thunder 0 := ⟨by decide +kernel, by decide +kernel, by decide +kernel⟩
theorem np_yX11_then : mh_np yX11_then 3 := ⟨by decide +kernel, by decide +kernel, by decide +kernel⟩
theorem np_yX0_copy : mh_np yX0_copy 1 := ⟨by decide +kernel, by decide +kernel, by decide +kernel⟩
theorem np_yX11_relays : mh_np yX11_relays 3 := ⟨by decide +kernel, by decide +kernel, by decide +kernel⟩
theorem np_yX0_standsSweet : mh_np yX0_standsSweet 0 := ⟨by decide +kernel, by decide +kernel, by decide +kernel⟩
theorem np_yX6_prepare : mh_np yX6_prepare 3 := ⟨by decide +kernel, by decide +kernel, by decide +kernel⟩
theorem np_yX6_sumUp : mh_np yX6_sumUp 4 := ⟨by decide +kernel, by decide +kernel, by decide +kernel⟩
theorem np_yX6_forget : mh_np yX6_forget 1 := ⟨by decide +kernel, by decide +kernel, by decide +kernel⟩
theorem np_yJ7_fill_fda19 : mh_np yJ7_fill_fda19 4 := ⟨by decide +kernel, by decide +kernel, by decide +kernel⟩
theorem np_yJ7_rangeCheck_23922 : mh_np yJ7_rangeCheck_23922 3 := ⟨by decide +kernel, by decide +kernel, by decide +kernel⟩
theorem np_yX6_sourInTown : mh_np yX6_sourInTown 0 := ⟨by decide +kernel, by decide +kernel, by decide +kernel⟩
theorem np_yX6_least : mh_np yX6_least 3 := ⟨by decide +kernel, by decide +kernel, by decide +kernel⟩
theorem np_yX6_placeOf : mh_np yX6_placeOf 3 := ⟨by decide +kernel, by decide +kernel, by decide +kernel⟩
theorem np_yX6_between : mh_np yX6_between 3 := ⟨by decide +kernel, by decide +kernel, by decide +kernel⟩
theorem np_yX6_choiceAt : mh_np yX6_choiceAt 1 := ⟨by decide +kernel, by decide +kernel, by decide +kernel⟩
theorem np_yX6_firstChoice : mh_np yX6_firstChoice 3 := ⟨by decide +kernel, by decide +kernel, by decide +kernel⟩
theorem np_yX11_turnsAt : mh_np yX11_turnsAt 2 := ⟨by decide +kernel, by decide +kernel, by decide +kernel⟩
theorem np_yX11_whereItTurns : mh_np yX11_whereItTurns 2 := ⟨by decide +kernel, by decide +kernel, by decide +kernel⟩
theorem np_yX11_bestGiven : mh_np yX11_bestGiven 3 := ⟨by decide +kernel, by decide +kernel, by decide +kernel⟩
theorem np_yX10_ride : mh_np yX10_ride 3 := ⟨by decide +kernel, by decide +kernel, by decide +kernel⟩
theorem np_yX11_cellar : mh_np yX11_cellar 3 := ⟨by decide +kernel, by decide +kernel, by decide +kernel⟩
theorem np_yX6_sourWithCellar : mh_np yX6_sourWithCellar 3 := ⟨by decide +kernel, by decide +kernel, by decide +kernel⟩
theorem np_yX11_odds : mh_np yX11_odds 3 := ⟨by decide +kernel, by decide +kernel, by decide +kernel⟩
theorem np_yX11_byWhom : mh_np yX11_byWhom 3 := ⟨by decide +kernel, by decide +kernel, by decide +kernel⟩
theorem np_yX11_seed : mh_np yX11_seed 1 := ⟨by decide +kernel, by decide +kernel, by decide +kernel⟩
theorem np_yX11_voice : mh_np yX11_voice 3 := ⟨by decide +kernel, by decide +kernel, by decide +kernel⟩
theorem np_yX4_fills : mh_np yX4_fills 3 := ⟨by decide +kernel, by decide +kernel, by decide +kernel⟩
theorem np_yX3_begin : mh_np yX3_begin 2 := ⟨by decide +kernel, by decide +kernel, by decide +kernel⟩
theorem np_yX3_fills : mh_np yX3_fills 3 := ⟨by decide +kernel, by decide +kernel, by decide +kernel⟩
theorem np_yX2_shakes : mh_np yX2_shakes 3 := ⟨by decide +kernel, by decide +kernel, by decide +kernel⟩
theorem np_yX1_cools : mh_np yX1_cools 3 := ⟨by decide +kernel, by decide +kernel, by decide +kernel⟩
theorem np_yX5_cools : mh_np yX5_cools 3 := ⟨by decide +kernel, by decide +kernel, by decide +kernel⟩
theorem np_yX3_cools : mh_np yX3_cools 3 := ⟨by decide +kernel, by decide +kernel, by decide +kernel⟩
theorem np_yX7_shakes : mh_np yX7_shakes 3 := ⟨by decide +kernel, by decide +kernel, by decide +kernel⟩
theorem np_yX3_shakes : mh_np yX3_shakes 3 := ⟨by decide +kernel, by decide +kernel, by decide +kernel⟩
theorem np_yX5_tells : mh_np yX5_tells 3 := ⟨by decide +kernel, by decide +kernel, by decide +kernel⟩
theorem np_yX8_tells : mh_np yX8_tells 3 := ⟨by decide +kernel, by decide +kernel, by decide +kernel⟩
theorem np_yX3_tells : mh_np yX3_tells 3 := ⟨by decide +kernel, by decide +kernel, by decide +kernel⟩
theorem np_yX11_trace : mh_np yX11_trace 1 := ⟨by decide +kernel, by decide +kernel, by decide +kernel⟩
theorem np_yX11_sheet : mh_np yX11_sheet 3 := ⟨by decide +kernel, by decide +kernel, by decide +kernel⟩
theorem np_yX11_isSheet : mh_np yX11_isSheet 1 := ⟨by decide +kernel, by decide +kernel, by decide +kernel⟩
theorem np_yX11_put : mh_np yX11_put 3 := ⟨by decide +kernel, by decide +kernel, by decide +kernel⟩
theorem np_yX11_move : mh_np yX11_move 5 := ⟨by decide +kernel, by decide +kernel, by decide +kernel⟩
theorem np_yX11_stand : mh_np yX11_stand 3 := ⟨by decide +kernel, by decide +kernel, by decide +kernel⟩
theorem np_yX11_heats : mh_np yX11_heats 1 := ⟨by decide +kernel, by decide +kernel, by decide +kernel⟩
theorem np_yX11_judge : mh_np yX11_judge 1 := ⟨by decide +kernel, by decide +kernel, by decide +kernel⟩
theorem np_yX11_image : mh_np yX11_image 0 := ⟨by decide +kernel, by decide +kernel, by decide +kernel⟩
theorem np_yX10_copy : mh_np yX10_copy 1 := ⟨by decide +kernel, by decide +kernel, by decide +kernel⟩
theorem np_yX9_copy : mh_np yX9_copy 1 := ⟨by decide +kernel, by decide +kernel, by decide +kernel⟩
theorem np_yX11_restore : mh_np yX11_restore 0 := ⟨by decide +kernel, by decide +kernel, by decide +kernel⟩
theorem np_yX11_tell : mh_np yX11_tell 1 := ⟨by decide +kernel, by decide +kernel, by decide +kernel⟩
theorem np_yX11_check : mh_np yX11_check 0 := ⟨by decide +kernel, by decide +kernel, by decide +kernel⟩
theorem np_yX11_sourBehindNext : mh_np yX11_sourBehindNext 1 := ⟨by decide +kernel, by decide +kernel, by decide +kernel⟩
theorem np_yX11_count : mh_np yX11_count 1 := ⟨by decide +kernel, by decide +kernel, by decide +kernel⟩
theorem np_yX10_howMany : mh_np yX10_howMany 1 := ⟨by decide +kernel, by decide +kernel, by decide +kernel⟩
theorem np_yX10_sweetOnes : mh_np yX10_sweetOnes 0 := ⟨by decide +kernel, by decide +kernel, by decide +kernel⟩
theorem np_yX11_told : mh_np yX11_told 1 := ⟨by decide +kernel, by decide +kernel, by decide +kernel⟩
theorem np_yX12_init : mh_np yX12_init 0 := ⟨by decide +kernel, by decide +kernel, by decide +kernel⟩
theorem np_yX12_hill : mh_np yX12_hill 3 := ⟨by decide +kernel, by decide +kernel, by decide +kernel⟩
theorem np_yX12_isHill : mh_np yX12_isHill 1 := ⟨by decide +kernel, by decide +kernel, by decide +kernel⟩
theorem np_yX12_in : mh_np yX12_in 3 := ⟨by decide +kernel, by decide +kernel, by decide +kernel⟩
theorem np_yX12_mostOf : mh_np yX12_mostOf 1 := ⟨by decide +kernel, by decide +kernel, by decide +kernel⟩
theorem np_yX12_error : mh_np yX12_error 1 := ⟨by decide +kernel, by decide +kernel, by decide +kernel⟩
theorem np_yX12_inBrook : mh_np yX12_inBrook 1 := ⟨by decide +kernel, by decide +kernel, by decide +kernel⟩
theorem np_yX12_its : mh_np yX12_its 2 := ⟨by decide +kernel, by decide +kernel, by decide +kernel⟩
theorem np_yX12_ofHillNow : mh_np yX12_ofHillNow 2 := ⟨by decide +kernel, by decide +kernel, by decide +kernel⟩
theorem np_yX12_ofHill : mh_np yX12_ofHill 2 := ⟨by decide +kernel, by decide +kernel, by decide +kernel⟩
theorem np_yX12_warm : mh_np yX12_warm 2 := ⟨by decide +kernel, by decide +kernel, by decide +kernel⟩
theorem np_yX12_lawBy : mh_np yX12_lawBy 4 := ⟨by decide +kernel, by decide +kernel, by decide +kernel⟩
theorem np_yX12_worked : mh_np yX12_worked 1 := ⟨by decide +kernel, by decide +kernel, by decide +kernel⟩
theorem np_yX12_done : mh_np yX12_done 3 := ⟨by decide +kernel, by decide +kernel, by decide +kernel⟩
theorem np_yX12_held : mh_np yX12_held 3 := ⟨by decide +kernel, by decide +kernel, by decide +kernel⟩
theorem np_yX12_carrier : mh_np yX12_carrier 3 := ⟨by decide +kernel, by decide +kernel, by decide +kernel⟩
theorem np_yX12_isCarrier : mh_np yX12_isCarrier 1 := ⟨by decide +kernel, by decide +kernel, by decide +kernel⟩
theorem np_yX12_pace : mh_np yX12_pace 1 := ⟨by decide +kernel, by decide +kernel, by decide +kernel⟩
theorem np_yX12_churn : mh_np yX12_churn 1 := ⟨by decide +kernel, by decide +kernel, by decide +kernel⟩
theorem np_yX12_isKind : mh_np yX12_isKind 1 := ⟨by decide +kernel, by decide +kernel, by decide +kernel⟩
theorem np_yX12_sets : mh_np yX12_sets 3 := ⟨by decide +kernel, by decide +kernel, by decide +kernel⟩
theorem np_yX12_anew : mh_np yX12_anew 1 := ⟨by decide +kernel, by decide +kernel, by decide +kernel⟩
theorem np_yX12_ofChurn : mh_np yX12_ofChurn 2 := ⟨by decide +kernel, by decide +kernel, by decide +kernel⟩
theorem np_yX12_isChurn : mh_np yX12_isChurn 1 := ⟨by decide +kernel, by decide +kernel, by decide +kernel⟩
theorem np_yX12_told : mh_np yX12_told 2 := ⟨by decide +kernel, by decide +kernel, by decide +kernel⟩
theorem np_yX12_stateOf : mh_np yX12_stateOf 1 := ⟨by decide +kernel, by decide +kernel, by decide +kernel⟩
theorem np_yX12_stateBy : mh_np yX12_stateBy 3 := ⟨by decide +kernel, by decide +kernel, by decide +kernel⟩
theorem np_yX12_turns : mh_np yX12_turns 2 := ⟨by decide +kernel, by decide +kernel, by decide +kernel⟩
theorem np_yX12_become_ : mh_np yX12_become_ 2 := ⟨by decide +kernel, by decide +kernel, by decide +kernel⟩
theorem np_yX12_as : mh_np yX12_as 2 := ⟨by decide +kernel, by decide +kernel, by decide +kernel⟩
theorem np_yX12_isUnder : mh_np yX12_isUnder 2 := ⟨by decide +kernel, by decide +kernel, by decide +kernel⟩
theorem np_yX12_aboveOf : mh_np yX12_aboveOf 1 := ⟨by decide +kernel, by decide +kernel, by decide +kernel⟩
theorem np_yX12_go : mh_np yX12_go 2 := ⟨by decide +kernel, by decide +kernel, by decide +kernel⟩
theorem np_yX12_stands : mh_np yX12_stands 1 := ⟨by decide +kernel, by decide +kernel, by decide +kernel⟩
theorem np_yX12_leaves : mh_np yX12_leaves 2 := ⟨by decide +kernel, by decide +kernel, by decide +kernel⟩
theorem np_yX12_brook : mh_np yX12_brook 1 := ⟨by decide +kernel, by decide +kernel, by decide +kernel⟩
theorem np_yX12_rest : mh_np yX12_rest 1 := ⟨by decide +kernel, by decide +kernel, by decide +kernel⟩
theorem np_yX12_giveUp : mh_np yX12_giveUp 1 := ⟨by decide +kernel, by decide +kernel, by decide +kernel⟩
theorem np_yX12_cheese : mh_np yX12_cheese 2 := ⟨by decide +kernel, by decide +kernel, by decide +kernel⟩
theorem np_yX12_takes : mh_np yX12_takes 1 := ⟨by decide +kernel, by decide +kernel, by decide +kernel⟩
theorem np_yX12_refill : mh_np yX12_refill 1 := ⟨by decide +kernel, by decide +kernel, by decide +kernel⟩
theorem np_yX12_feed : mh_np yX12_feed 2 := ⟨by decide +kernel, by decide +kernel, by decide +kernel⟩
theorem np_yX12_text : mh_np yX12_text 1 := ⟨by decide +kernel, by decide +kernel, by decide +kernel⟩
theorem np_yX12_t : mh_np yX12_t 0 := ⟨by decide +kernel, by decide +kernel, by decide +kernel⟩
theorem np_yX12_a : mh_np yX12_a 0 := ⟨by decide +kernel, by decide +kernel, by decide +kernel⟩
theorem np_yX12_b : mh_np yX12_b 0 := ⟨by decide +kernel, by decide +kernel, by decide +kernel⟩
theorem np_yX12_sum : mh_np yX12_sum 0 := ⟨by decide +kernel, by decide +kernel, by decide +kernel⟩
theorem np_yX12_p : mh_np yX12_p 0 := ⟨by decide +kernel, by decide +kernel, by decide +kernel⟩
theorem np_yX12_q : mh_np yX12_q 0 := ⟨by decide +kernel, by decide +kernel, by decide +kernel⟩
theorem np_yX12_nameHere : mh_np yX12_nameHere 0 := ⟨by decide +kernel, by decide +kernel, by decide +kernel⟩
theorem np_yX12_here : mh_np yX12_here 0 := ⟨by decide +kernel, by decide +kernel, by decide +kernel⟩
theorem np_yX12_isDigit : mh_np yX12_isDigit 0 := ⟨by decide +kernel, by decide +kernel, by decide +kernel⟩
theorem np_yX12_numberRead : mh_np yX12_numberRead 0 := ⟨by decide +kernel, by decide +kernel, by decide +kernel⟩
theorem np_yX12_puts : mh_np yX12_puts 1 := ⟨by decide +kernel, by decide +kernel, by decide +kernel⟩
theorem np_yX12_opens : mh_np yX12_opens 0 := ⟨by decide +kernel, by decide +kernel, by decide +kernel⟩
theorem np_yX12_takes_ : mh_np yX12_takes_ 1 := ⟨by decide +kernel, by decide +kernel, by decide +kernel⟩
theorem np_yX12_law : mh_np yX12_law 4 := ⟨by decide +kernel, by decide +kernel, by decide +kernel⟩
theorem np_yX12_quarters : mh_np yX12_quarters 1 := ⟨by decide +kernel, by decide +kernel, by decide +kernel⟩
theorem np_yX12_aQuarter : mh_np yX12_aQuarter 0 := ⟨by decide +kernel, by decide +kernel, by decide +kernel⟩
theorem np_yX12_goesOn : mh_np yX12_goesOn 1 := ⟨by decide +kernel, by decide +kernel, by decide +kernel⟩
theorem np_yX12_warms : mh_np yX12_warms 3 := ⟨by decide +kernel, by decide +kernel, by decide +kernel⟩
theorem np_yX12_sours : mh_np yX12_sours 2 := ⟨by decide +kernel, by decide +kernel, by decide +kernel⟩
theorem np_yX12_shake : mh_np yX12_shake 1 := ⟨by decide +kernel, by decide +kernel, by decide +kernel⟩
theorem np_yX12_jolts : mh_np yX12_jolts 3 := ⟨by decide +kernel, by decide +kernel, by decide +kernel⟩
theorem np_yX12_comes : mh_np yX12_comes 1 := ⟨by decide +kernel, by decide +kernel, by decide +kernel⟩
theorem np_yX12_worth : mh_np yX12_worth 3 := ⟨by decide +kernel, by decide +kernel, by decide +kernel⟩
theorem np_yX12_days : mh_np yX12_days 1 := ⟨by decide +kernel, by decide +kernel, by decide +kernel⟩
theorem np_yX12_draw : mh_np yX12_draw 0 := ⟨by decide +kernel, by decide +kernel, by decide +kernel⟩
theorem np_yX12_thunders : mh_np yX12_thunders 0 := ⟨by decide +kernel, by decide +kernel, by decide +kernel⟩
theorem np_yX12_thunder : mh_np yX12_thunder 0 := ⟨by decide +kernel, by decide +kernel, by decide +kernel⟩
theorem np_yX12_then : mh_np yX12_then 3 := ⟨by decide +kernel, by decide +kernel, by decide +kernel⟩
theorem np_yX12_lends : mh_np yX12_lends 0 := ⟨by decide +kernel, by decide +kernel, by decide +kernel⟩
theorem np_yX12_become : mh_np yX12_become 2 := ⟨by decide +kernel, by decide +kernel, by decide +kernel⟩
theorem np_yX12_laysBack : mh_np yX12_laysBack 0 := ⟨by decide +kernel, by decide +kernel, by decide +kernel⟩
theorem np_yX12_relays : mh_np yX12_relays 3 := ⟨by decide +kernel, by decide +kernel, by decide +kernel⟩
theorem np_yX12_mayRelay : mh_np yX12_mayRelay 1 := ⟨by decide +kernel, by decide +kernel, by decide +kernel⟩
theorem np_yX12_relayed : mh_np yX12_relayed 2 := ⟨by decide +kernel, by decide +kernel, by decide +kernel⟩
theorem np_yX12_findWarmed : mh_np yX12_findWarmed 1 := ⟨by decide +kernel, by decide +kernel, by decide +kernel⟩
theorem np_yX12_placeOf : mh_np yX12_placeOf 3 := ⟨by decide +kernel, by decide +kernel, by decide +kernel⟩
theorem np_yX12_leastFrom : mh_np yX12_leastFrom 5 := ⟨by decide +kernel, by decide +kernel, by decide +kernel⟩
theorem np_yX12_leastBy : mh_np yX12_leastBy 7 := ⟨by decide +kernel, by decide +kernel, by decide +kernel⟩
theorem np_yX12_warmedIn : mh_np yX12_warmedIn 3 := ⟨by decide +kernel, by decide +kernel, by decide +kernel⟩
theorem np_yX12_wayAt : mh_np yX12_wayAt 3 := ⟨by decide +kernel, by decide +kernel, by decide +kernel⟩
theorem np_yX12_turnsAt : mh_np yX12_turnsAt 2 := ⟨by decide +kernel, by decide +kernel, by decide +kernel⟩
theorem np_yX12_begins : mh_np yX12_begins 4 := ⟨by decide +kernel, by decide +kernel, by decide +kernel⟩
theorem np_yX12_straight : mh_np yX12_straight 2 := ⟨by decide +kernel, by decide +kernel, by decide +kernel⟩
theorem np_yX12_bestGiven : mh_np yX12_bestGiven 3 := ⟨by decide +kernel, by decide +kernel, by decide +kernel⟩
theorem np_yX12_straightOn : mh_np yX12_straightOn 2 := ⟨by decide +kernel, by decide +kernel, by decide +kernel⟩
theorem np_yX12_cellar : mh_np yX12_cellar 3 := ⟨by decide +kernel, by decide +kernel, by decide +kernel⟩
theorem np_yX12_odds : mh_np yX12_odds 3 := ⟨by decide +kernel, by decide +kernel, by decide +kernel⟩
theorem np_yX12_byWhom : mh_np yX12_byWhom 3 := ⟨by decide +kernel, by decide +kernel, by decide +kernel⟩
theorem np_yX12_seed : mh_np yX12_seed 1 := ⟨by decide +kernel, by decide +kernel, by decide +kernel⟩
theorem np_yX12_voice : mh_np yX12_voice 3 := ⟨by decide +kernel, by decide +kernel, by decide +kernel⟩
theorem np_yX12_fills : mh_np yX12_fills 1 := ⟨by decide +kernel, by decide +kernel, by decide +kernel⟩
theorem np_yX12_runs : mh_np yX12_runs 1 := ⟨by decide +kernel, by decide +kernel, by decide +kernel⟩
theorem np_yX12_shakes : mh_np yX12_shakes 1 := ⟨by decide +kernel, by decide +kernel, by decide +kernel⟩
theorem np_yX12_goatsShakes : mh_np yX12_goatsShakes 1 := ⟨by decide +kernel, by decide +kernel, by decide +kernel⟩
theorem np_yX12_plainShakes : mh_np yX12_plainShakes 1 := ⟨by decide +kernel, by decide +kernel, by decide +kernel⟩
theorem np_yX12_cools : mh_np yX12_cools 1 := ⟨by decide +kernel, by decide +kernel, by decide +kernel⟩
theorem np_yX12_creamedCools : mh_np yX12_creamedCools 1 := ⟨by decide +kernel, by decide +kernel, by decide +kernel⟩
theorem np_yX12_plainCools : mh_np yX12_plainCools 1 := ⟨by decide +kernel, by decide +kernel, by decide +kernel⟩
theorem np_yX12_tells : mh_np yX12_tells 1 := ⟨by decide +kernel, by decide +kernel, by decide +kernel⟩
theorem np_yX12_plainTells : mh_np yX12_plainTells 1 := ⟨by decide +kernel, by decide +kernel, by decide +kernel⟩
theorem np_yX12_trace : mh_np yX12_trace 1 := ⟨by decide +kernel, by decide +kernel, by decide +kernel⟩
theorem np_yX12_sheet : mh_np yX12_sheet 3 := ⟨by decide +kernel, by decide +kernel, by decide +kernel⟩
theorem np_yX12_isSheet : mh_np yX12_isSheet 1 := ⟨by decide +kernel, by decide +kernel, by decide +kernel⟩
theorem np_yX12_put : mh_np yX12_put 3 := ⟨by decide +kernel, by decide +kernel, by decide +kernel⟩
theorem np_yX12_lacks : mh_np yX12_lacks 1 := ⟨by decide +kernel, by decide +kernel, by decide +kernel⟩
theorem np_yX12_move : mh_np yX12_move 5 := ⟨by decide +kernel, by decide +kernel, by decide +kernel⟩
theorem np_yX12_heats : mh_np yX12_heats 1 := ⟨by decide +kernel, by decide +kernel, by decide +kernel⟩
theorem np_yX12_judge : mh_np yX12_judge 1 := ⟨by decide +kernel, by decide +kernel, by decide +kernel⟩
theorem np_yX12_image : mh_np yX12_image 0 := ⟨by decide +kernel, by decide +kernel, by decide +kernel⟩
theorem np_yX12_restore : mh_np yX12_restore 0 := ⟨by decide +kernel, by decide +kernel, by decide +kernel⟩
theorem np_yX12_tell : mh_np yX12_tell 1 := ⟨by decide +kernel, by decide +kernel, by decide +kernel⟩
theorem np_yX12_check : mh_np yX12_check 0 := ⟨by decide +kernel, by decide +kernel, by decide +kernel⟩
theorem np_yX12_allSour : mh_np yX12_allSour 0 := ⟨by decide +kernel, by decide +kernel, by decide +kernel⟩
theorem np_yX12_count : mh_np yX12_count 1 := ⟨by decide +kernel, by decide +kernel, by decide +kernel⟩
theorem np_yX12_howMany : mh_np yX12_howMany 1 := ⟨by decide +kernel, by decide +kernel, by decide +kernel⟩
theorem np_yX12_sweet : mh_np yX12_sweet 0 := ⟨by decide +kernel, by decide +kernel, by decide +kernel⟩
theorem np_yX12_told_ : mh_np yX12_told_ 1 := ⟨by decide +kernel, by decide +kernel, by decide +kernel⟩
theorem wu_RX0_44_RX1 : mh_cU RX0 44 RX1 "MilkHills$Kind" yX3_turns yX3_turns cX3_turns 2 (some .int) 1 cX3_turns 2 (some .int) := ⟨mh_ok8 tw_3_110 tw_3_113 tw_3_111 tw_3_114 tw_3_111 tw_1_2 tw_3_130 tw_3_130, ⟨by decide +kernel, by decide +kernel, by decide +kernel⟩, by decide⟩
theorem wu_RX0_44_RX2 : mh_cU RX0 44 RX2 "MilkHills$Kind" yX3_turns yX2_turns cX2_turns 2 (some .int) 1 cX3_turns 2 (some .int) := ⟨mh_ok8 tw_3_110 tw_3_113 tw_3_111 tw_3_115 tw_3_116 tw_1_3 tw_3_117 tw_3_130, ⟨by decide +kernel, by decide +kernel, by decide +kernel⟩, by decide⟩
theorem wv_RX0_44_yX3_turns : mh_cV RX0 44 yX3_turns cX3_turns 2 (some .int) 1 := ⟨mh_ok5 tw_3_110 tw_3_111 tw_3_112 tw_1_2 tw_3_130, np_yX3_turns, by decide⟩
theorem wu_RX0_44_RX4 : mh_cU RX0 44 RX4 "MilkHills$Kind" yX3_turns yX3_turns cX3_turns 2 (some .int) 1 cX3_turns 2 (some .int) := ⟨mh_ok8 tw_3_110 tw_3_113 tw_3_111 tw_3_118 tw_3_111 tw_1_2 tw_3_130 tw_3_130, ⟨by decide +kernel, by decide +kernel, by decide +kernel⟩, by decide⟩
theorem wu_RX0_44_RX5 : mh_cU RX0 44 RX5 "MilkHills$Kind" yX3_turns yX3_turns cX3_turns 2 (some .int) 1 cX3_turns 2 (some .int) := ⟨mh_ok8 tw_3_110 tw_3_113 tw_3_111 tw_3_119 tw_3_111 tw_1_2 tw_3_130 tw_3_130, ⟨by decide +kernel, by decide +kernel, by decide +kernel⟩, by decide⟩
theorem wu_RX0_44_RX7 : mh_cU RX0 44 RX7 "MilkHills$Kind" yX3_turns yX7_turns cX7_turns 2 (some .int) 1 cX3_turns 2 (some .int) := ⟨mh_ok8 tw_3_110 tw_3_113 tw_3_111 tw_3_120 tw_3_121 tw_1_6 tw_3_122 tw_3_130, ⟨by decide +kernel, by decide +kernel, by decide +kernel⟩, by decide⟩
theorem wu_RX0_44_RX8 : mh_cU RX0 44 RX8 "MilkHills$Kind" yX3_turns yX8_turns cX8_turns 2 (some .int) 1 cX3_turns 2 (some .int) := ⟨mh_ok8 tw_3_110 tw_3_113 tw_3_111 tw_3_124 tw_3_125 tw_1_7 tw_3_126 tw_3_130, ⟨by decide +kernel, by decide +kernel, by decide +kernel⟩, by decide⟩
theorem wv_RX0_50_yX0_stands : mh_cV RX0 50 yX0_stands cX0_stands 1 (some .boolean) 0 := ⟨mh_ok5 tw_4_84 tw_3_155 tw_3_156 tw_1_20 tw_3_157, np_yX0_stands, by decide⟩
theorem wv_RX0_54_yX0_state : mh_cV RX0 54 yX0_state cX0_state 1 (some .int) 0 := ⟨mh_ok5 tw_3_106 tw_3_107 tw_3_108 tw_1_20 tw_3_109, np_yX0_state, by decide⟩
theorem wz_RX1_13 : mh_cSU RX1 13 yX3_cools cX3_cools 4 (some .int) 3 := ⟨mh_ok6 tw_4_220 tw_4_214 tw_1_66 tw_4_212 tw_1_2 tw_4_231, np_yX3_cools, by decide, by decide⟩
theorem wz_RX2_7 : mh_cSU RX2 7 yX3_warms cX3_warms 3 (some .int) 2 := ⟨mh_ok6 tw_3_234 tw_3_229 tw_1_50 tw_3_227 tw_1_2 tw_4_11, np_yX3_warms, by decide, by decide⟩
theorem wz_RX2_17 : mh_cSU RX2 17 yX3_shakes cX3_shakes 4 (some .int) 3 := ⟨mh_ok6 tw_4_210 tw_4_203 tw_1_50 tw_4_201 tw_1_2 tw_5_1, np_yX3_shakes, by decide, by decide⟩
theorem wu_RX2_27_RX1 : mh_cU RX2 27 RX1 "MilkHills$Kind" yX3_cools yX1_cools cX1_cools 4 (some .int) 3 cX3_cools 4 (some .int) := ⟨mh_ok8 tw_4_211 tw_4_214 tw_4_212 tw_4_215 tw_4_216 tw_1_5 tw_4_217 tw_4_231, ⟨by decide +kernel, by decide +kernel, by decide +kernel⟩, by decide⟩
theorem wu_RX2_27_RX2 : mh_cU RX2 27 RX2 "MilkHills$Kind" yX3_cools yX3_cools cX3_cools 4 (some .int) 3 cX3_cools 4 (some .int) := ⟨mh_ok8 tw_4_211 tw_4_214 tw_4_212 tw_4_221 tw_4_212 tw_1_2 tw_4_231 tw_4_231, ⟨by decide +kernel, by decide +kernel, by decide +kernel⟩, by decide⟩
theorem wv_RX2_27_yX3_cools : mh_cV RX2 27 yX3_cools cX3_cools 4 (some .int) 3 := ⟨mh_ok5 tw_4_211 tw_4_212 tw_4_213 tw_1_2 tw_4_231, np_yX3_cools, by decide⟩
theorem wu_RX2_27_RX4 : mh_cU RX2 27 RX4 "MilkHills$Kind" yX3_cools yX3_cools cX3_cools 4 (some .int) 3 cX3_cools 4 (some .int) := ⟨mh_ok8 tw_4_211 tw_4_214 tw_4_212 tw_4_222 tw_4_212 tw_1_2 tw_4_231 tw_4_231, ⟨by decide +kernel, by decide +kernel, by decide +kernel⟩, by decide⟩
theorem wu_RX2_27_RX5 : mh_cU RX2 27 RX5 "MilkHills$Kind" yX3_cools yX5_cools cX5_cools 4 (some .int) 3 cX3_cools 4 (some .int) := ⟨mh_ok8 tw_4_211 tw_4_214 tw_4_212 tw_4_223 tw_4_224 tw_1_8 tw_4_225 tw_4_231, ⟨by decide +kernel, by decide +kernel, by decide +kernel⟩, by decide⟩
theorem wu_RX2_27_RX7 : mh_cU RX2 27 RX7 "MilkHills$Kind" yX3_cools yX3_cools cX3_cools 4 (some .int) 3 cX3_cools 4 (some .int) := ⟨mh_ok8 tw_4_211 tw_4_214 tw_4_212 tw_4_229 tw_4_212 tw_1_2 tw_4_231 tw_4_231, ⟨by decide +kernel, by decide +kernel, by decide +kernel⟩, by decide⟩
theorem wu_RX2_27_RX8 : mh_cU RX2 27 RX8 "MilkHills$Kind" yX3_cools yX3_cools cX3_cools 4 (some .int) 3 cX3_cools 4 (some .int) := ⟨mh_ok8 tw_4_211 tw_4_214 tw_4_212 tw_4_230 tw_4_212 tw_1_2 tw_4_231 tw_4_231, ⟨by decide +kernel, by decide +kernel, by decide +kernel⟩, by decide⟩
theorem ws_RX3_15 : mh_cS RX3 15 yX3_begin cX3_begin 2 none 2 := ⟨mh_ok4 tw_4_199 tw_4_192 tw_1_2 tw_4_193, np_yX3_begin, by decide⟩
theorem wu_RX3_26_RX1 : mh_cU RX3 26 RX1 "MilkHills$Kind" yX3_fills yX3_fills cX3_fills 4 (some .int) 3 cX3_fills 4 (some .int) := ⟨mh_ok8 tw_5_2 tw_4_184 tw_4_182 tw_4_185 tw_4_182 tw_1_2 tw_4_198 tw_4_198, ⟨by decide +kernel, by decide +kernel, by decide +kernel⟩, by decide⟩
theorem wu_RX3_26_RX2 : mh_cU RX3 26 RX2 "MilkHills$Kind" yX3_fills yX3_fills cX3_fills 4 (some .int) 3 cX3_fills 4 (some .int) := ⟨mh_ok8 tw_5_2 tw_4_184 tw_4_182 tw_4_186 tw_4_182 tw_1_2 tw_4_198 tw_4_198, ⟨by decide +kernel, by decide +kernel, by decide +kernel⟩, by decide⟩
theorem wv_RX3_26_yX3_fills : mh_cV RX3 26 yX3_fills cX3_fills 4 (some .int) 3 := ⟨mh_ok5 tw_5_2 tw_4_182 tw_4_183 tw_1_2 tw_4_198, np_yX3_fills, by decide⟩
theorem wu_RX3_26_RX4 : mh_cU RX3 26 RX4 "MilkHills$Kind" yX3_fills yX4_fills cX4_fills 4 (some .int) 3 cX3_fills 4 (some .int) := ⟨mh_ok8 tw_5_2 tw_4_184 tw_4_182 tw_4_187 tw_4_188 tw_1_4 tw_4_189 tw_4_198, ⟨by decide +kernel, by decide +kernel, by decide +kernel⟩, by decide⟩
theorem wu_RX3_26_RX5 : mh_cU RX3 26 RX5 "MilkHills$Kind" yX3_fills yX3_fills cX3_fills 4 (some .int) 3 cX3_fills 4 (some .int) := ⟨mh_ok8 tw_5_2 tw_4_184 tw_4_182 tw_4_195 tw_4_182 tw_1_2 tw_4_198 tw_4_198, ⟨by decide +kernel, by decide +kernel, by decide +kernel⟩, by decide⟩
theorem wu_RX3_26_RX7 : mh_cU RX3 26 RX7 "MilkHills$Kind" yX3_fills yX3_fills cX3_fills 4 (some .int) 3 cX3_fills 4 (some .int) := ⟨mh_ok8 tw_5_2 tw_4_184 tw_4_182 tw_4_196 tw_4_182 tw_1_2 tw_4_198 tw_4_198, ⟨by decide +kernel, by decide +kernel, by decide +kernel⟩, by decide⟩
theorem wu_RX3_26_RX8 : mh_cU RX3 26 RX8 "MilkHills$Kind" yX3_fills yX4_fills cX4_fills 4 (some .int) 3 cX3_fills 4 (some .int) := ⟨mh_ok8 tw_5_2 tw_4_184 tw_4_182 tw_4_197 tw_4_188 tw_1_4 tw_4_189 tw_4_198, ⟨by decide +kernel, by decide +kernel, by decide +kernel⟩, by decide⟩
theorem wu_RX3_33_RX1 : mh_cU RX3 33 RX1 "MilkHills$Kind" yX3_shakes yX3_shakes cX3_shakes 4 (some .int) 3 cX3_shakes 4 (some .int) := ⟨mh_ok8 tw_5_28 tw_4_203 tw_4_201 tw_4_204 tw_4_201 tw_1_2 tw_5_1 tw_5_1, ⟨by decide +kernel, by decide +kernel, by decide +kernel⟩, by decide⟩
theorem wu_RX3_33_RX2 : mh_cU RX3 33 RX2 "MilkHills$Kind" yX3_shakes yX2_shakes cX2_shakes 5 (some .int) 3 cX3_shakes 4 (some .int) := ⟨mh_ok8 tw_5_28 tw_4_203 tw_4_201 tw_4_205 tw_4_206 tw_1_3 tw_4_207 tw_5_1, ⟨by decide +kernel, by decide +kernel, by decide +kernel⟩, by decide⟩
theorem wv_RX3_33_yX3_shakes : mh_cV RX3 33 yX3_shakes cX3_shakes 4 (some .int) 3 := ⟨mh_ok5 tw_5_28 tw_4_201 tw_4_202 tw_1_2 tw_5_1, np_yX3_shakes, by decide⟩
theorem wu_RX3_33_RX4 : mh_cU RX3 33 RX4 "MilkHills$Kind" yX3_shakes yX3_shakes cX3_shakes 4 (some .int) 3 cX3_shakes 4 (some .int) := ⟨mh_ok8 tw_5_28 tw_4_203 tw_4_201 tw_4_232 tw_4_201 tw_1_2 tw_5_1 tw_5_1, ⟨by decide +kernel, by decide +kernel, by decide +kernel⟩, by decide⟩
theorem wu_RX3_33_RX5 : mh_cU RX3 33 RX5 "MilkHills$Kind" yX3_shakes yX3_shakes cX3_shakes 4 (some .int) 3 cX3_shakes 4 (some .int) := ⟨mh_ok8 tw_5_28 tw_4_203 tw_4_201 tw_4_233 tw_4_201 tw_1_2 tw_5_1 tw_5_1, ⟨by decide +kernel, by decide +kernel, by decide +kernel⟩, by decide⟩
theorem wu_RX3_33_RX7 : mh_cU RX3 33 RX7 "MilkHills$Kind" yX3_shakes yX7_shakes cX7_shakes 4 (some .int) 3 cX3_shakes 4 (some .int) := ⟨mh_ok8 tw_5_28 tw_4_203 tw_4_201 tw_4_234 tw_4_235 tw_1_6 tw_4_236 tw_5_1, ⟨by decide +kernel, by decide +kernel, by decide +kernel⟩, by decide⟩
theorem wu_RX3_33_RX8 : mh_cU RX3 33 RX8 "MilkHills$Kind" yX3_shakes yX3_shakes cX3_shakes 4 (some .int) 3 cX3_shakes 4 (some .int) := ⟨mh_ok8 tw_5_28 tw_4_203 tw_4_201 tw_5_0 tw_4_201 tw_1_2 tw_5_1 tw_5_1, ⟨by decide +kernel, by decide +kernel, by decide +kernel⟩, by decide⟩
theorem wu_RX3_36_RX1 : mh_cU RX3 36 RX1 "MilkHills$Kind" yX3_cools yX1_cools cX1_cools 4 (some .int) 3 cX3_cools 4 (some .int) := ⟨mh_ok8 tw_5_29 tw_4_214 tw_4_212 tw_4_215 tw_4_216 tw_1_5 tw_4_217 tw_4_231, ⟨by decide +kernel, by decide +kernel, by decide +kernel⟩, by decide⟩
theorem wu_RX3_36_RX2 : mh_cU RX3 36 RX2 "MilkHills$Kind" yX3_cools yX3_cools cX3_cools 4 (some .int) 3 cX3_cools 4 (some .int) := ⟨mh_ok8 tw_5_29 tw_4_214 tw_4_212 tw_4_221 tw_4_212 tw_1_2 tw_4_231 tw_4_231, ⟨by decide +kernel, by decide +kernel, by decide +kernel⟩, by decide⟩
theorem wv_RX3_36_yX3_cools : mh_cV RX3 36 yX3_cools cX3_cools 4 (some .int) 3 := ⟨mh_ok5 tw_5_29 tw_4_212 tw_4_213 tw_1_2 tw_4_231, np_yX3_cools, by decide⟩
theorem wu_RX3_36_RX4 : mh_cU RX3 36 RX4 "MilkHills$Kind" yX3_cools yX3_cools cX3_cools 4 (some .int) 3 cX3_cools 4 (some .int) := ⟨mh_ok8 tw_5_29 tw_4_214 tw_4_212 tw_4_222 tw_4_212 tw_1_2 tw_4_231 tw_4_231, ⟨by decide +kernel, by decide +kernel, by decide +kernel⟩, by decide⟩
theorem wu_RX3_36_RX5 : mh_cU RX3 36 RX5 "MilkHills$Kind" yX3_cools yX5_cools cX5_cools 4 (some .int) 3 cX3_cools 4 (some .int) := ⟨mh_ok8 tw_5_29 tw_4_214 tw_4_212 tw_4_223 tw_4_224 tw_1_8 tw_4_225 tw_4_231, ⟨by decide +kernel, by decide +kernel, by decide +kernel⟩, by decide⟩
theorem wu_RX3_36_RX7 : mh_cU RX3 36 RX7 "MilkHills$Kind" yX3_cools yX3_cools cX3_cools 4 (some .int) 3 cX3_cools 4 (some .int) := ⟨mh_ok8 tw_5_29 tw_4_214 tw_4_212 tw_4_229 tw_4_212 tw_1_2 tw_4_231 tw_4_231, ⟨by decide +kernel, by decide +kernel, by decide +kernel⟩, by decide⟩
theorem wu_RX3_36_RX8 : mh_cU RX3 36 RX8 "MilkHills$Kind" yX3_cools yX3_cools cX3_cools 4 (some .int) 3 cX3_cools 4 (some .int) := ⟨mh_ok8 tw_5_29 tw_4_214 tw_4_212 tw_4_230 tw_4_212 tw_1_2 tw_4_231 tw_4_231, ⟨by decide +kernel, by decide +kernel, by decide +kernel⟩, by decide⟩
theorem wz_RX4_7 : mh_cSU RX4 7 yX3_warms cX3_warms 3 (some .int) 2 := ⟨mh_ok6 tw_3_238 tw_3_229 tw_1_58 tw_3_227 tw_1_2 tw_4_11, np_yX3_warms, by decide, by decide⟩
theorem wz_RX4_17 : mh_cSU RX4 17 yX3_fills cX3_fills 4 (some .int) 3 := ⟨mh_ok6 tw_4_194 tw_4_184 tw_1_58 tw_4_182 tw_1_2 tw_4_198, np_yX3_fills, by decide, by decide⟩
theorem wz_RX5_11 : mh_cSU RX5 11 yX1_jolts cX1_jolts 3 (some .int) 2 := ⟨mh_ok6 tw_4_30 tw_7_219 tw_1_90 tw_4_23 tw_1_5 tw_4_24, np_yX1_jolts, by decide, by decide⟩
theorem wz_RX5_20 : mh_cSU RX5 20 yX1_cools cX1_cools 4 (some .int) 3 := ⟨mh_ok6 tw_4_228 tw_7_220 tw_1_90 tw_4_216 tw_1_5 tw_4_217, np_yX1_cools, by decide, by decide⟩
theorem wu_RX5_34_RX1 : mh_cU RX5 34 RX1 "MilkHills$Kind" yX3_shakes yX3_shakes cX3_shakes 4 (some .int) 3 cX3_shakes 4 (some .int) := ⟨mh_ok8 tw_5_14 tw_4_203 tw_4_201 tw_4_204 tw_4_201 tw_1_2 tw_5_1 tw_5_1, ⟨by decide +kernel, by decide +kernel, by decide +kernel⟩, by decide⟩
theorem wu_RX5_34_RX2 : mh_cU RX5 34 RX2 "MilkHills$Kind" yX3_shakes yX2_shakes cX2_shakes 5 (some .int) 3 cX3_shakes 4 (some .int) := ⟨mh_ok8 tw_5_14 tw_4_203 tw_4_201 tw_4_205 tw_4_206 tw_1_3 tw_4_207 tw_5_1, ⟨by decide +kernel, by decide +kernel, by decide +kernel⟩, by decide⟩
theorem wv_RX5_34_yX3_shakes : mh_cV RX5 34 yX3_shakes cX3_shakes 4 (some .int) 3 := ⟨mh_ok5 tw_5_14 tw_4_201 tw_4_202 tw_1_2 tw_5_1, np_yX3_shakes, by decide⟩
theorem wu_RX5_34_RX4 : mh_cU RX5 34 RX4 "MilkHills$Kind" yX3_shakes yX3_shakes cX3_shakes 4 (some .int) 3 cX3_shakes 4 (some .int) := ⟨mh_ok8 tw_5_14 tw_4_203 tw_4_201 tw_4_232 tw_4_201 tw_1_2 tw_5_1 tw_5_1, ⟨by decide +kernel, by decide +kernel, by decide +kernel⟩, by decide⟩
theorem wu_RX5_34_RX5 : mh_cU RX5 34 RX5 "MilkHills$Kind" yX3_shakes yX3_shakes cX3_shakes 4 (some .int) 3 cX3_shakes 4 (some .int) := ⟨mh_ok8 tw_5_14 tw_4_203 tw_4_201 tw_4_233 tw_4_201 tw_1_2 tw_5_1 tw_5_1, ⟨by decide +kernel, by decide +kernel, by decide +kernel⟩, by decide⟩
theorem wu_RX5_34_RX7 : mh_cU RX5 34 RX7 "MilkHills$Kind" yX3_shakes yX7_shakes cX7_shakes 4 (some .int) 3 cX3_shakes 4 (some .int) := ⟨mh_ok8 tw_5_14 tw_4_203 tw_4_201 tw_4_234 tw_4_235 tw_1_6 tw_4_236 tw_5_1, ⟨by decide +kernel, by decide +kernel, by decide +kernel⟩, by decide⟩
theorem wu_RX5_34_RX8 : mh_cU RX5 34 RX8 "MilkHills$Kind" yX3_shakes yX3_shakes cX3_shakes 4 (some .int) 3 cX3_shakes 4 (some .int) := ⟨mh_ok8 tw_5_14 tw_4_203 tw_4_201 tw_5_0 tw_4_201 tw_1_2 tw_5_1 tw_5_1, ⟨by decide +kernel, by decide +kernel, by decide +kernel⟩, by decide⟩
theorem wu_RX6_65_RX1 : mh_cU RX6 65 RX1 "MilkHills$Kind" yX3_turns yX3_turns cX3_turns 2 (some .int) 1 cX3_turns 2 (some .int) := ⟨mh_ok8 tw_4_91 tw_3_113 tw_3_111 tw_3_114 tw_3_111 tw_1_2 tw_3_130 tw_3_130, ⟨by decide +kernel, by decide +kernel, by decide +kernel⟩, by decide⟩
theorem wu_RX6_65_RX2 : mh_cU RX6 65 RX2 "MilkHills$Kind" yX3_turns yX2_turns cX2_turns 2 (some .int) 1 cX3_turns 2 (some .int) := ⟨mh_ok8 tw_4_91 tw_3_113 tw_3_111 tw_3_115 tw_3_116 tw_1_3 tw_3_117 tw_3_130, ⟨by decide +kernel, by decide +kernel, by decide +kernel⟩, by decide⟩
theorem wv_RX6_65_yX3_turns : mh_cV RX6 65 yX3_turns cX3_turns 2 (some .int) 1 := ⟨mh_ok5 tw_4_91 tw_3_111 tw_3_112 tw_1_2 tw_3_130, np_yX3_turns, by decide⟩
theorem wu_RX6_65_RX4 : mh_cU RX6 65 RX4 "MilkHills$Kind" yX3_turns yX3_turns cX3_turns 2 (some .int) 1 cX3_turns 2 (some .int) := ⟨mh_ok8 tw_4_91 tw_3_113 tw_3_111 tw_3_118 tw_3_111 tw_1_2 tw_3_130 tw_3_130, ⟨by decide +kernel, by decide +kernel, by decide +kernel⟩, by decide⟩
theorem wu_RX6_65_RX5 : mh_cU RX6 65 RX5 "MilkHills$Kind" yX3_turns yX3_turns cX3_turns 2 (some .int) 1 cX3_turns 2 (some .int) := ⟨mh_ok8 tw_4_91 tw_3_113 tw_3_111 tw_3_119 tw_3_111 tw_1_2 tw_3_130 tw_3_130, ⟨by decide +kernel, by decide +kernel, by decide +kernel⟩, by decide⟩
theorem wu_RX6_65_RX7 : mh_cU RX6 65 RX7 "MilkHills$Kind" yX3_turns yX7_turns cX7_turns 2 (some .int) 1 cX3_turns 2 (some .int) := ⟨mh_ok8 tw_4_91 tw_3_113 tw_3_111 tw_3_120 tw_3_121 tw_1_6 tw_3_122 tw_3_130, ⟨by decide +kernel, by decide +kernel, by decide +kernel⟩, by decide⟩
theorem wu_RX6_65_RX8 : mh_cU RX6 65 RX8 "MilkHills$Kind" yX3_turns yX8_turns cX8_turns 2 (some .int) 1 cX3_turns 2 (some .int) := ⟨mh_ok8 tw_4_91 tw_3_113 tw_3_111 tw_3_124 tw_3_125 tw_1_7 tw_3_126 tw_3_130, ⟨by decide +kernel, by decide +kernel, by decide +kernel⟩, by decide⟩
theorem wu_RX6_82_RX1 : mh_cU RX6 82 RX1 "MilkHills$Kind" yX3_jolts yX1_jolts cX1_jolts 3 (some .int) 2 cX3_jolts 3 (some .int) := ⟨mh_ok8 tw_4_92 tw_4_21 tw_4_19 tw_4_22 tw_4_23 tw_1_5 tw_4_24 tw_4_39, ⟨by decide +kernel, by decide +kernel, by decide +kernel⟩, by decide⟩
theorem wu_RX6_82_RX2 : mh_cU RX6 82 RX2 "MilkHills$Kind" yX3_jolts yX3_jolts cX3_jolts 3 (some .int) 2 cX3_jolts 3 (some .int) := ⟨mh_ok8 tw_4_92 tw_4_21 tw_4_19 tw_4_25 tw_4_19 tw_1_2 tw_4_39 tw_4_39, ⟨by decide +kernel, by decide +kernel, by decide +kernel⟩, by decide⟩
theorem wv_RX6_82_yX3_jolts : mh_cV RX6 82 yX3_jolts cX3_jolts 3 (some .int) 2 := ⟨mh_ok5 tw_4_92 tw_4_19 tw_4_20 tw_1_2 tw_4_39, np_yX3_jolts, by decide⟩
theorem wu_RX6_82_RX4 : mh_cU RX6 82 RX4 "MilkHills$Kind" yX3_jolts yX3_jolts cX3_jolts 3 (some .int) 2 cX3_jolts 3 (some .int) := ⟨mh_ok8 tw_4_92 tw_4_21 tw_4_19 tw_4_26 tw_4_19 tw_1_2 tw_4_39 tw_4_39, ⟨by decide +kernel, by decide +kernel, by decide +kernel⟩, by decide⟩
theorem wu_RX6_82_RX5 : mh_cU RX6 82 RX5 "MilkHills$Kind" yX3_jolts yX5_jolts cX5_jolts 3 (some .int) 2 cX3_jolts 3 (some .int) := ⟨mh_ok8 tw_4_92 tw_4_21 tw_4_19 tw_4_27 tw_4_28 tw_1_8 tw_4_29 tw_4_39, ⟨by decide +kernel, by decide +kernel, by decide +kernel⟩, by decide⟩
theorem wu_RX6_82_RX7 : mh_cU RX6 82 RX7 "MilkHills$Kind" yX3_jolts yX7_jolts cX7_jolts 3 (some .int) 2 cX3_jolts 3 (some .int) := ⟨mh_ok8 tw_4_92 tw_4_21 tw_4_19 tw_4_31 tw_4_32 tw_1_6 tw_4_33 tw_4_39, ⟨by decide +kernel, by decide +kernel, by decide +kernel⟩, by decide⟩
theorem wu_RX6_82_RX8 : mh_cU RX6 82 RX8 "MilkHills$Kind" yX3_jolts yX3_jolts cX3_jolts 3 (some .int) 2 cX3_jolts 3 (some .int) := ⟨mh_ok8 tw_4_92 tw_4_21 tw_4_19 tw_4_38 tw_4_19 tw_1_2 tw_4_39 tw_4_39, ⟨by decide +kernel, by decide +kernel, by decide +kernel⟩, by decide⟩
theorem wv_RX6_90_yX6_sumUp : mh_cV RX6 90 yX6_sumUp cX6_sumUp 8 none 4 := ⟨mh_ok5 tw_4_93 tw_4_95 tp_14 tw_1_9 tw_4_96, np_yX6_sumUp, by decide⟩
theorem wv_RX6_94_yX6_forget : mh_cV RX6 94 yX6_forget cX6_forget 2 none 1 := ⟨mh_ok5 tw_4_99 tw_4_101 tp_15 tw_1_9 tw_4_102, np_yX6_forget, by decide⟩
theorem wv_RX6_98_yX6_least : mh_cV RX6 98 yX6_least cX6_least 15 (some .int) 3 := ⟨mh_ok5 tw_4_113 tw_4_115 tp_16 tw_1_9 tw_4_116, np_yX6_least, by decide⟩
theorem wv_RX6_106_yX6_sourInTown : mh_cV RX6 106 yX6_sourInTown cX6_sourInTown 2 (some .int) 0 := ⟨mh_ok5 tw_4_162 tw_4_110 tw_4_111 tw_1_9 tw_4_112, np_yX6_sourInTown, by decide⟩
theorem wv_RX6_110_yX6_firstChoice : mh_cV RX6 110 yX6_firstChoice cX6_firstChoice 5 (some .int) 3 := ⟨mh_ok5 tw_4_130 tw_4_132 tp_18 tw_1_9 tw_4_133, np_yX6_firstChoice, by decide⟩
theorem ws_RX6_117 : mh_cS RX6 117 yX6_placeOf cX6_placeOf 3 (some .int) 3 := ⟨mh_ok4 tw_4_117 tw_4_118 tw_1_9 tw_4_119, np_yX6_placeOf, by decide⟩
theorem wv_RX6_121_yX6_between : mh_cV RX6 121 yX6_between cX6_between 4 (some .int) 3 := ⟨mh_ok5 tw_4_122 tw_4_124 tp_17 tw_1_9 tw_4_125, np_yX6_between, by decide⟩
theorem wv_RX6_131_yX9_value : mh_cV RX6 131 yX9_value cX9_value 7 (some .int) 3 := ⟨mh_ok5 tw_4_97 tw_3_70 tw_3_71 tw_1_11 tw_3_72, np_yX9_value, by decide⟩
theorem wu_RX6_136_RX1 : mh_cU RX6 136 RX1 "MilkHills$Kind" yX3_warms yX3_warms cX3_warms 3 (some .int) 2 cX3_warms 3 (some .int) := ⟨mh_ok8 tw_4_98 tw_3_229 tw_3_227 tw_3_230 tw_3_227 tw_1_2 tw_4_11 tw_4_11, ⟨by decide +kernel, by decide +kernel, by decide +kernel⟩, by decide⟩
theorem wu_RX6_136_RX2 : mh_cU RX6 136 RX2 "MilkHills$Kind" yX3_warms yX2_warms cX2_warms 3 (some .int) 2 cX3_warms 3 (some .int) := ⟨mh_ok8 tw_4_98 tw_3_229 tw_3_227 tw_3_231 tw_3_232 tw_1_3 tw_3_233 tw_4_11, ⟨by decide +kernel, by decide +kernel, by decide +kernel⟩, by decide⟩
theorem wv_RX6_136_yX3_warms : mh_cV RX6 136 yX3_warms cX3_warms 3 (some .int) 2 := ⟨mh_ok5 tw_4_98 tw_3_227 tw_3_228 tw_1_2 tw_4_11, np_yX3_warms, by decide⟩
theorem wu_RX6_136_RX4 : mh_cU RX6 136 RX4 "MilkHills$Kind" yX3_warms yX4_warms cX4_warms 3 (some .int) 2 cX3_warms 3 (some .int) := ⟨mh_ok8 tw_4_98 tw_3_229 tw_3_227 tw_3_235 tw_3_236 tw_1_4 tw_3_237 tw_4_11, ⟨by decide +kernel, by decide +kernel, by decide +kernel⟩, by decide⟩
theorem wu_RX6_136_RX5 : mh_cU RX6 136 RX5 "MilkHills$Kind" yX3_warms yX5_warms cX5_warms 3 (some .int) 2 cX3_warms 3 (some .int) := ⟨mh_ok8 tw_4_98 tw_3_229 tw_3_227 tw_3_239 tw_4_0 tw_1_8 tw_4_1 tw_4_11, ⟨by decide +kernel, by decide +kernel, by decide +kernel⟩, by decide⟩
theorem wu_RX6_136_RX7 : mh_cU RX6 136 RX7 "MilkHills$Kind" yX3_warms yX2_warms cX2_warms 3 (some .int) 2 cX3_warms 3 (some .int) := ⟨mh_ok8 tw_4_98 tw_3_229 tw_3_227 tw_4_5 tw_3_232 tw_1_3 tw_3_233 tw_4_11, ⟨by decide +kernel, by decide +kernel, by decide +kernel⟩, by decide⟩
theorem wu_RX6_136_RX8 : mh_cU RX6 136 RX8 "MilkHills$Kind" yX3_warms yX8_warms cX8_warms 3 (some .int) 2 cX3_warms 3 (some .int) := ⟨mh_ok8 tw_4_98 tw_3_229 tw_3_227 tw_4_6 tw_4_7 tw_1_7 tw_4_8 tw_4_11, ⟨by decide +kernel, by decide +kernel, by decide +kernel⟩, by decide⟩
theorem ws_RX6_139 : mh_cS RX6 139 yJ7_fill_fda19 cJ7_fill_fda19 5 none 4 := ⟨mh_ok4 tw_4_103 tw_4_104 tw_1_19 tw_4_105, np_yJ7_fill_fda19, by decide⟩
theorem wz_RX7_16 : mh_cSU RX7 16 yX2_turns cX2_turns 2 (some .int) 1 := ⟨mh_ok6 tw_3_123 tw_7_217 tw_1_74 tw_3_116 tw_1_3 tw_3_117, np_yX2_turns, by decide, by decide⟩
theorem wz_RX7_26 : mh_cSU RX7 26 yX2_shakes cX2_shakes 5 (some .int) 3 := ⟨mh_ok6 tw_4_239 tw_7_221 tw_1_74 tw_4_206 tw_1_3 tw_4_207, np_yX2_shakes, by decide, by decide⟩
theorem wz_RX8_7 : mh_cSU RX8 7 yX4_warms cX4_warms 3 (some .int) 2 := ⟨mh_ok6 tw_4_9 tw_7_218 tw_1_82 tw_3_236 tw_1_4 tw_3_237, np_yX4_warms, by decide, by decide⟩
theorem wu_RX8_36_RX1 : mh_cU RX8 36 RX1 "MilkHills$Kind" yX3_fills yX3_fills cX3_fills 4 (some .int) 3 cX3_fills 4 (some .int) := ⟨mh_ok8 tw_5_26 tw_4_184 tw_4_182 tw_4_185 tw_4_182 tw_1_2 tw_4_198 tw_4_198, ⟨by decide +kernel, by decide +kernel, by decide +kernel⟩, by decide⟩
theorem wu_RX8_36_RX2 : mh_cU RX8 36 RX2 "MilkHills$Kind" yX3_fills yX3_fills cX3_fills 4 (some .int) 3 cX3_fills 4 (some .int) := ⟨mh_ok8 tw_5_26 tw_4_184 tw_4_182 tw_4_186 tw_4_182 tw_1_2 tw_4_198 tw_4_198, ⟨by decide +kernel, by decide +kernel, by decide +kernel⟩, by decide⟩
theorem wv_RX8_36_yX3_fills : mh_cV RX8 36 yX3_fills cX3_fills 4 (some .int) 3 := ⟨mh_ok5 tw_5_26 tw_4_182 tw_4_183 tw_1_2 tw_4_198, np_yX3_fills, by decide⟩
theorem wu_RX8_36_RX4 : mh_cU RX8 36 RX4 "MilkHills$Kind" yX3_fills yX4_fills cX4_fills 4 (some .int) 3 cX3_fills 4 (some .int) := ⟨mh_ok8 tw_5_26 tw_4_184 tw_4_182 tw_4_187 tw_4_188 tw_1_4 tw_4_189 tw_4_198, ⟨by decide +kernel, by decide +kernel, by decide +kernel⟩, by decide⟩
theorem wu_RX8_36_RX5 : mh_cU RX8 36 RX5 "MilkHills$Kind" yX3_fills yX3_fills cX3_fills 4 (some .int) 3 cX3_fills 4 (some .int) := ⟨mh_ok8 tw_5_26 tw_4_184 tw_4_182 tw_4_195 tw_4_182 tw_1_2 tw_4_198 tw_4_198, ⟨by decide +kernel, by decide +kernel, by decide +kernel⟩, by decide⟩
theorem wu_RX8_36_RX7 : mh_cU RX8 36 RX7 "MilkHills$Kind" yX3_fills yX3_fills cX3_fills 4 (some .int) 3 cX3_fills 4 (some .int) := ⟨mh_ok8 tw_5_26 tw_4_184 tw_4_182 tw_4_196 tw_4_182 tw_1_2 tw_4_198 tw_4_198, ⟨by decide +kernel, by decide +kernel, by decide +kernel⟩, by decide⟩
theorem wu_RX8_36_RX8 : mh_cU RX8 36 RX8 "MilkHills$Kind" yX3_fills yX4_fills cX4_fills 4 (some .int) 3 cX3_fills 4 (some .int) := ⟨mh_ok8 tw_5_26 tw_4_184 tw_4_182 tw_4_197 tw_4_188 tw_1_4 tw_4_189 tw_4_198, ⟨by decide +kernel, by decide +kernel, by decide +kernel⟩, by decide⟩
theorem wv_RX9_29_yJ0_length_8abf5 : mh_cV RX9 29 yJ0_length_8abf5 cJ0_length_8abf5 1 (some .int) 0 := ⟨mh_ok5 tw_1_153 tw_1_154 tw_1_155 tw_1_12 tw_1_156, np_yJ0_length_8abf5, by decide⟩
theorem wv_RX9_35_yJ0_charAt_5068e : mh_cV RX9 35 yJ0_charAt_5068e cJ0_charAt_5068e 2 (some .char) 1 := ⟨mh_ok5 tw_1_163 tw_1_164 tw_1_165 tw_1_12 tw_1_166, np_yJ0_charAt_5068e, by decide⟩
theorem wv_RX9_39_yX9_read : mh_cV RX9 39 yX9_read cX9_read 3 (some .int) 2 := ⟨mh_ok5 tw_1_201 tw_1_202 tw_1_203 tw_1_11 tw_1_204, np_yX9_read, by decide⟩
theorem wv_RX9_73_yX9_readAny : mh_cV RX9 73 yX9_readAny cX9_readAny 4 (some .boolean) 1 := ⟨mh_ok5 tw_1_211 tw_1_213 tp_0 tw_1_11 tw_1_214, np_yX9_readAny, by decide⟩
theorem ws_RX9_77 : mh_cS RX9 77 yX9_bit cX9_bit 1 (some .int) 1 := ⟨mh_ok4 tw_3_73 tw_3_74 tw_1_11 tw_3_75, np_yX9_bit, by decide⟩
theorem ws_RX9_81 : mh_cS RX9 81 yX9_joined cX9_joined 3 (some .int) 3 := ⟨mh_ok4 tw_3_76 tw_3_77 tw_1_11 tw_3_78, np_yX9_joined, by decide⟩
theorem wv_RX9_85_yX9_readAll : mh_cV RX9 85 yX9_readAll cX9_readAll 4 (some .boolean) 1 := ⟨mh_ok5 tw_1_215 tw_1_217 tp_1 tw_1_11 tw_1_218, np_yX9_readAll, by decide⟩
theorem wv_RX9_88_yX9_sees : mh_cV RX9 88 yX9_sees cX9_sees 2 (some .boolean) 1 := ⟨mh_ok5 tw_2_11 tw_2_13 tp_10 tw_1_11 tw_2_14, np_yX9_sees, by decide⟩
theorem wv_RX9_92_yX9_write : mh_cV RX9 92 yX9_write cX9_write 2 none 1 := ⟨mh_ok5 tw_2_7 tw_2_9 tp_9 tw_1_11 tw_2_10, np_yX9_write, by decide⟩
theorem wv_RX9_96_yX9_readCompared : mh_cV RX9 96 yX9_readCompared cX9_readCompared 4 (some .boolean) 1 := ⟨mh_ok5 tw_1_219 tw_1_221 tp_2 tw_1_11 tw_1_222, np_yX9_readCompared, by decide⟩
theorem wv_RX9_99_yX9_readSum : mh_cV RX9 99 yX9_readSum cX9_readSum 5 (some .boolean) 1 := ⟨mh_ok5 tw_1_223 tw_1_225 tp_3 tw_1_11 tw_1_226, np_yX9_readSum, by decide⟩
theorem wv_RX9_102_yX9_next : mh_cV RX9 102 yX9_next cX9_next 1 (some .int) 0 := ⟨mh_ok5 tw_1_239 tw_2_1 tp_7 tw_1_11 tw_2_2, np_yX9_next, by decide⟩
theorem wv_RX9_105_yX9_readProduct : mh_cV RX9 105 yX9_readProduct cX9_readProduct 5 (some .boolean) 1 := ⟨mh_ok5 tw_1_227 tw_1_229 tp_4 tw_1_11 tw_1_230, np_yX9_readProduct, by decide⟩
theorem wv_RX9_108_yX9_readSingle : mh_cV RX9 108 yX9_readSingle cX9_readSingle 3 (some .boolean) 1 := ⟨mh_ok5 tw_1_231 tw_1_233 tp_5 tw_1_11 tw_1_234, np_yX9_readSingle, by decide⟩
theorem wv_RX9_111_yX9_seesDigit : mh_cV RX9 111 yX9_seesDigit cX9_seesDigit 1 (some .boolean) 0 := ⟨mh_ok5 tw_1_235 tw_1_237 tp_6 tw_1_11 tw_1_238, np_yX9_seesDigit, by decide⟩
theorem wv_RX9_115_yX9_readNumber : mh_cV RX9 115 yX9_readNumber cX9_readNumber 3 none 0 := ⟨mh_ok5 tw_2_3 tw_2_5 tp_8 tw_1_11 tw_2_6, np_yX9_readNumber, by decide⟩
theorem wv_RX9_118_yX9_readOpened : mh_cV RX9 118 yX9_readOpened cX9_readOpened 4 (some .boolean) 1 := ⟨mh_ok5 tw_2_15 tw_2_17 tp_11 tw_1_11 tw_2_18, np_yX9_readOpened, by decide⟩
theorem wv_RX9_121_yJ0_indexOf_0f7a4 : mh_cV RX9 121 yJ0_indexOf_0f7a4 cJ0_indexOf_0f7a4 2 (some .int) 1 := ⟨mh_ok5 tw_2_19 tw_2_20 tw_2_21 tw_1_12 tw_2_22, np_yJ0_indexOf_0f7a4, by decide⟩
theorem ws_RX10_64 : mh_cS RX10 64 yJ7_fill_53178 cJ7_fill_53178 4 none 2 := ⟨mh_ok4 tw_2_111 tw_2_112 tw_1_19 tw_2_113, np_yJ7_fill_53178, by decide⟩
theorem wv_RX10_79_yX0_copy : mh_cV RX10 79 yX0_copy cX0_copy 2 none 1 := ⟨mh_ok5 tw_5_73 tw_4_72 tw_4_73 tw_1_20 tw_4_74, np_yX0_copy, by decide⟩
theorem wv_RX10_95_yX9_copy : mh_cV RX10 95 yX9_copy cX9_copy 2 none 1 := ⟨mh_ok5 tw_5_74 tw_5_75 tw_5_76 tw_1_11 tw_5_77, np_yX9_copy, by decide⟩
theorem wv_RX10_105_yX9_value : mh_cV RX10 105 yX9_value cX9_value 7 (some .int) 3 := ⟨mh_ok5 tw_3_69 tw_3_70 tw_3_71 tw_1_11 tw_3_72, np_yX9_value, by decide⟩
theorem wv_RX10_109_yX0_state : mh_cV RX10 109 yX0_state cX0_state 1 (some .int) 0 := ⟨mh_ok5 tw_4_48 tw_3_107 tw_3_108 tw_1_20 tw_3_109, np_yX0_state, by decide⟩
theorem wv_RX10_141_yX0_sourBy : mh_cV RX10 141 yX0_sourBy cX0_sourBy 2 none 1 := ⟨mh_ok5 tw_4_12 tw_4_13 tw_4_14 tw_1_20 tw_4_15, np_yX0_sourBy, by decide⟩
theorem wv_RX10_145_yX10_pass : mh_cV RX10 145 yX10_pass cX10_pass 4 (some .boolean) 2 := ⟨mh_ok5 tw_3_221 tw_3_222 tw_3_223 tw_1_10 tw_3_224, np_yX10_pass, by decide⟩
theorem wv_RX10_149_yX10_worth : mh_cV RX10 149 yX10_worth cX10_worth 2 (some .int) 1 := ⟨mh_ok5 tw_4_44 tw_4_45 tw_4_46 tw_1_10 tw_4_47, np_yX10_worth, by decide⟩
theorem wv_RX10_153_yX10_takeIn : mh_cV RX10 153 yX10_takeIn cX10_takeIn 2 none 1 := ⟨mh_ok5 tw_4_49 tw_3_185 tw_3_186 tw_1_10 tw_3_187, np_yX10_takeIn, by decide⟩
theorem wv_RX10_160_yX10_warm : mh_cV RX10 160 yX10_warm cX10_warm 3 (some .int) 2 := ⟨mh_ok5 tw_3_225 tw_3_65 tw_3_66 tw_1_10 tw_3_67, np_yX10_warm, by decide⟩
theorem wu_RX10_163_RX1 : mh_cU RX10 163 RX1 "MilkHills$Kind" yX3_warms yX3_warms cX3_warms 3 (some .int) 2 cX3_warms 3 (some .int) := ⟨mh_ok8 tw_3_226 tw_3_229 tw_3_227 tw_3_230 tw_3_227 tw_1_2 tw_4_11 tw_4_11, ⟨by decide +kernel, by decide +kernel, by decide +kernel⟩, by decide⟩
theorem wu_RX10_163_RX2 : mh_cU RX10 163 RX2 "MilkHills$Kind" yX3_warms yX2_warms cX2_warms 3 (some .int) 2 cX3_warms 3 (some .int) := ⟨mh_ok8 tw_3_226 tw_3_229 tw_3_227 tw_3_231 tw_3_232 tw_1_3 tw_3_233 tw_4_11, ⟨by decide +kernel, by decide +kernel, by decide +kernel⟩, by decide⟩
theorem wv_RX10_163_yX3_warms : mh_cV RX10 163 yX3_warms cX3_warms 3 (some .int) 2 := ⟨mh_ok5 tw_3_226 tw_3_227 tw_3_228 tw_1_2 tw_4_11, np_yX3_warms, by decide⟩
theorem wu_RX10_163_RX4 : mh_cU RX10 163 RX4 "MilkHills$Kind" yX3_warms yX4_warms cX4_warms 3 (some .int) 2 cX3_warms 3 (some .int) := ⟨mh_ok8 tw_3_226 tw_3_229 tw_3_227 tw_3_235 tw_3_236 tw_1_4 tw_3_237 tw_4_11, ⟨by decide +kernel, by decide +kernel, by decide +kernel⟩, by decide⟩
theorem wu_RX10_163_RX5 : mh_cU RX10 163 RX5 "MilkHills$Kind" yX3_warms yX5_warms cX5_warms 3 (some .int) 2 cX3_warms 3 (some .int) := ⟨mh_ok8 tw_3_226 tw_3_229 tw_3_227 tw_3_239 tw_4_0 tw_1_8 tw_4_1 tw_4_11, ⟨by decide +kernel, by decide +kernel, by decide +kernel⟩, by decide⟩
theorem wu_RX10_163_RX7 : mh_cU RX10 163 RX7 "MilkHills$Kind" yX3_warms yX2_warms cX2_warms 3 (some .int) 2 cX3_warms 3 (some .int) := ⟨mh_ok8 tw_3_226 tw_3_229 tw_3_227 tw_4_5 tw_3_232 tw_1_3 tw_3_233 tw_4_11, ⟨by decide +kernel, by decide +kernel, by decide +kernel⟩, by decide⟩
theorem wu_RX10_163_RX8 : mh_cU RX10 163 RX8 "MilkHills$Kind" yX3_warms yX8_warms cX8_warms 3 (some .int) 2 cX3_warms 3 (some .int) := ⟨mh_ok8 tw_3_226 tw_3_229 tw_3_227 tw_4_6 tw_4_7 tw_1_7 tw_4_8 tw_4_11, ⟨by decide +kernel, by decide +kernel, by decide +kernel⟩, by decide⟩
theorem wu_RX10_175_RX1 : mh_cU RX10 175 RX1 "MilkHills$Kind" yX3_jolts yX1_jolts cX1_jolts 3 (some .int) 2 cX3_jolts 3 (some .int) := ⟨mh_ok8 tw_4_18 tw_4_21 tw_4_19 tw_4_22 tw_4_23 tw_1_5 tw_4_24 tw_4_39, ⟨by decide +kernel, by decide +kernel, by decide +kernel⟩, by decide⟩
theorem wu_RX10_175_RX2 : mh_cU RX10 175 RX2 "MilkHills$Kind" yX3_jolts yX3_jolts cX3_jolts 3 (some .int) 2 cX3_jolts 3 (some .int) := ⟨mh_ok8 tw_4_18 tw_4_21 tw_4_19 tw_4_25 tw_4_19 tw_1_2 tw_4_39 tw_4_39, ⟨by decide +kernel, by decide +kernel, by decide +kernel⟩, by decide⟩
theorem wv_RX10_175_yX3_jolts : mh_cV RX10 175 yX3_jolts cX3_jolts 3 (some .int) 2 := ⟨mh_ok5 tw_4_18 tw_4_19 tw_4_20 tw_1_2 tw_4_39, np_yX3_jolts, by decide⟩
theorem wu_RX10_175_RX4 : mh_cU RX10 175 RX4 "MilkHills$Kind" yX3_jolts yX3_jolts cX3_jolts 3 (some .int) 2 cX3_jolts 3 (some .int) := ⟨mh_ok8 tw_4_18 tw_4_21 tw_4_19 tw_4_26 tw_4_19 tw_1_2 tw_4_39 tw_4_39, ⟨by decide +kernel, by decide +kernel, by decide +kernel⟩, by decide⟩
theorem wu_RX10_175_RX5 : mh_cU RX10 175 RX5 "MilkHills$Kind" yX3_jolts yX5_jolts cX5_jolts 3 (some .int) 2 cX3_jolts 3 (some .int) := ⟨mh_ok8 tw_4_18 tw_4_21 tw_4_19 tw_4_27 tw_4_28 tw_1_8 tw_4_29 tw_4_39, ⟨by decide +kernel, by decide +kernel, by decide +kernel⟩, by decide⟩
theorem wu_RX10_175_RX7 : mh_cU RX10 175 RX7 "MilkHills$Kind" yX3_jolts yX7_jolts cX7_jolts 3 (some .int) 2 cX3_jolts 3 (some .int) := ⟨mh_ok8 tw_4_18 tw_4_21 tw_4_19 tw_4_31 tw_4_32 tw_1_6 tw_4_33 tw_4_39, ⟨by decide +kernel, by decide +kernel, by decide +kernel⟩, by decide⟩
theorem wu_RX10_175_RX8 : mh_cU RX10 175 RX8 "MilkHills$Kind" yX3_jolts yX3_jolts cX3_jolts 3 (some .int) 2 cX3_jolts 3 (some .int) := ⟨mh_ok8 tw_4_18 tw_4_21 tw_4_19 tw_4_38 tw_4_19 tw_1_2 tw_4_39 tw_4_39, ⟨by decide +kernel, by decide +kernel, by decide +kernel⟩, by decide⟩
theorem wv_RX10_178_yX0_shakeBy : mh_cV RX10 178 yX0_shakeBy cX0_shakeBy 2 none 1 := ⟨mh_ok5 tw_4_40 tw_4_41 tw_4_42 tw_1_20 tw_4_43, np_yX0_shakeBy, by decide⟩
theorem wv_RX10_184_yX10_setOff : mh_cV RX10 184 yX10_setOff cX10_setOff 3 none 2 := ⟨mh_ok5 tw_4_152 tw_3_159 tw_3_160 tw_1_10 tw_3_161, np_yX10_setOff, by decide⟩
theorem ws_RX11_82 : mh_cS RX11 82 yX11_within cX11_within 3 (some .boolean) 3 := ⟨mh_ok4 tw_3_45 tw_3_46 tw_1_1 tw_3_47, np_yX11_within, by decide⟩
theorem ws_RX11_86 : mh_cS RX11 86 yX11_mostOfHill cX11_mostOfHill 1 (some .int) 1 := ⟨mh_ok4 tw_3_48 tw_3_49 tw_1_1 tw_3_50, np_yX11_mostOfHill, by decide⟩
theorem wv_RX11_90_yX11_refuse : mh_cV RX11 90 yX11_refuse cX11_refuse 2 (some .int) 1 := ⟨mh_ok5 tw_3_51 tw_3_53 tp_12 tw_1_1 tw_3_54, np_yX11_refuse, by decide⟩
theorem wv_RX11_93_yX10_inBrook : mh_cV RX11 93 yX10_inBrook cX10_inBrook 4 (some .int) 1 := ⟨mh_ok5 tw_3_56 tw_3_57 tw_3_58 tw_1_10 tw_3_59, np_yX10_inBrook, by decide⟩
theorem wv_RX11_109_yX10_warm : mh_cV RX11 109 yX10_warm cX10_warm 3 (some .int) 2 := ⟨mh_ok5 tw_3_64 tw_3_65 tw_3_66 tw_1_10 tw_3_67, np_yX10_warm, by decide⟩
theorem ws_RX11_113 : mh_cS RX11 113 yX11_isCarrier cX11_isCarrier 1 (some .boolean) 1 := ⟨mh_ok4 tw_3_83 tw_3_84 tw_1_1 tw_3_85, np_yX11_isCarrier, by decide⟩
theorem wv_RX11_136_yX0_renew : mh_cV RX11 136 yX0_renew cX0_renew 1 none 0 := ⟨mh_ok5 tw_3_90 tw_3_91 tw_3_92 tw_1_20 tw_3_93, np_yX0_renew, by decide⟩
theorem wv_RX11_139_yX11_isChurn : mh_cV RX11 139 yX11_isChurn cX11_isChurn 2 (some .boolean) 1 := ⟨mh_ok5 tw_3_98 tw_3_100 tp_13 tw_1_1 tw_3_101, np_yX11_isChurn, by decide⟩
theorem wv_RX11_142_yX0_answer : mh_cV RX11 142 yX0_answer cX0_answer 2 (some .int) 1 := ⟨mh_ok5 tw_3_102 tw_3_103 tw_3_104 tw_1_20 tw_3_105, np_yX0_answer, by decide⟩
theorem wu_RX11_148_RX1 : mh_cU RX11 148 RX1 "MilkHills$Kind" yX3_isUnder yX3_isUnder cX3_isUnder 2 (some .boolean) 1 cX3_isUnder 2 (some .boolean) := ⟨mh_ok8 tw_3_139 tw_3_142 tw_3_140 tw_3_143 tw_3_140 tw_1_2 tw_3_149 tw_3_149, ⟨by decide +kernel, by decide +kernel, by decide +kernel⟩, by decide⟩
theorem wu_RX11_148_RX2 : mh_cU RX11 148 RX2 "MilkHills$Kind" yX3_isUnder yX3_isUnder cX3_isUnder 2 (some .boolean) 1 cX3_isUnder 2 (some .boolean) := ⟨mh_ok8 tw_3_139 tw_3_142 tw_3_140 tw_3_144 tw_3_140 tw_1_2 tw_3_149 tw_3_149, ⟨by decide +kernel, by decide +kernel, by decide +kernel⟩, by decide⟩
theorem wv_RX11_148_yX3_isUnder : mh_cV RX11 148 yX3_isUnder cX3_isUnder 2 (some .boolean) 1 := ⟨mh_ok5 tw_3_139 tw_3_140 tw_3_141 tw_1_2 tw_3_149, np_yX3_isUnder, by decide⟩
theorem wu_RX11_148_RX4 : mh_cU RX11 148 RX4 "MilkHills$Kind" yX3_isUnder yX3_isUnder cX3_isUnder 2 (some .boolean) 1 cX3_isUnder 2 (some .boolean) := ⟨mh_ok8 tw_3_139 tw_3_142 tw_3_140 tw_3_145 tw_3_140 tw_1_2 tw_3_149 tw_3_149, ⟨by decide +kernel, by decide +kernel, by decide +kernel⟩, by decide⟩
theorem wu_RX11_148_RX5 : mh_cU RX11 148 RX5 "MilkHills$Kind" yX3_isUnder yX3_isUnder cX3_isUnder 2 (some .boolean) 1 cX3_isUnder 2 (some .boolean) := ⟨mh_ok8 tw_3_139 tw_3_142 tw_3_140 tw_3_146 tw_3_140 tw_1_2 tw_3_149 tw_3_149, ⟨by decide +kernel, by decide +kernel, by decide +kernel⟩, by decide⟩
theorem wu_RX11_148_RX7 : mh_cU RX11 148 RX7 "MilkHills$Kind" yX3_isUnder yX3_isUnder cX3_isUnder 2 (some .boolean) 1 cX3_isUnder 2 (some .boolean) := ⟨mh_ok8 tw_3_139 tw_3_142 tw_3_140 tw_3_147 tw_3_140 tw_1_2 tw_3_149 tw_3_149, ⟨by decide +kernel, by decide +kernel, by decide +kernel⟩, by decide⟩
theorem wu_RX11_148_RX8 : mh_cU RX11 148 RX8 "MilkHills$Kind" yX3_isUnder yX3_isUnder cX3_isUnder 2 (some .boolean) 1 cX3_isUnder 2 (some .boolean) := ⟨mh_ok8 tw_3_139 tw_3_142 tw_3_140 tw_3_148 tw_3_140 tw_1_2 tw_3_149 tw_3_149, ⟨by decide +kernel, by decide +kernel, by decide +kernel⟩, by decide⟩
theorem wv_RX11_151_yX0_stands : mh_cV RX11 151 yX0_stands cX0_stands 1 (some .boolean) 0 := ⟨mh_ok5 tw_3_154 tw_3_155 tw_3_156 tw_1_20 tw_3_157, np_yX0_stands, by decide⟩
theorem wv_RX11_155_yX10_setOff : mh_cV RX11 155 yX10_setOff cX10_setOff 3 none 2 := ⟨mh_ok5 tw_3_158 tw_3_159 tw_3_160 tw_1_10 tw_3_161, np_yX10_setOff, by decide⟩
theorem wv_RX11_172_yX10_room : mh_cV RX11 172 yX10_room cX10_room 2 (some .int) 1 := ⟨mh_ok5 tw_3_167 tw_3_168 tw_3_169 tw_1_10 tw_3_170, np_yX10_room, by decide⟩
theorem wv_RX11_175_yX10_cheesePrice : mh_cV RX11 175 yX10_cheesePrice cX10_cheesePrice 2 (some .int) 1 := ⟨mh_ok5 tw_3_179 tw_3_180 tw_3_181 tw_1_10 tw_3_182, np_yX10_cheesePrice, by decide⟩
theorem wv_RX11_179_yX10_takeIn : mh_cV RX11 179 yX10_takeIn cX10_takeIn 2 none 1 := ⟨mh_ok5 tw_3_184 tw_3_185 tw_3_186 tw_1_10 tw_3_187, np_yX10_takeIn, by decide⟩
theorem wv_RX11_189_yX10_lawOf : mh_cV RX11 189 yX10_lawOf cX10_lawOf 2 (some (.object "MilkHills$Text")) 1 := ⟨mh_ok5 tw_3_203 tw_3_204 tw_3_205 tw_1_10 tw_3_206, np_yX10_lawOf, by decide⟩
theorem wv_RX11_193_yX9_read : mh_cV RX11 193 yX9_read cX9_read 3 (some .int) 2 := ⟨mh_ok5 tw_3_207 tw_1_202 tw_1_203 tw_1_11 tw_1_204, np_yX9_read, by decide⟩
theorem wv_RX11_199_yX9_value : mh_cV RX11 199 yX9_value cX9_value 7 (some .int) 3 := ⟨mh_ok5 tw_3_212 tw_3_70 tw_3_71 tw_1_11 tw_3_72, np_yX9_value, by decide⟩
theorem wv_RX11_203_yX10_passQuarter : mh_cV RX11 203 yX10_passQuarter cX10_passQuarter 2 none 0 := ⟨mh_ok5 tw_3_217 tw_3_218 tw_3_219 tw_1_10 tw_3_220, np_yX10_passQuarter, by decide⟩
theorem wv_RX11_209_yX10_draw : mh_cV RX11 209 yX10_draw cX10_draw 1 (some .int) 0 := ⟨mh_ok5 tw_4_54 tw_4_55 tw_4_56 tw_1_10 tw_4_57, np_yX10_draw, by decide⟩
theorem wv_RX11_213_yX10_strike : mh_cV RX11 213 yX10_strike cX10_strike 3 (some .int) 0 := ⟨mh_ok5 tw_4_59 tw_4_60 tw_4_61 tw_1_10 tw_4_62, np_yX10_strike, by decide⟩
theorem wv_RX11_216_yX0_copy : mh_cV RX11 216 yX0_copy cX0_copy 2 none 1 := ⟨mh_ok5 tw_4_71 tw_4_72 tw_4_73 tw_1_20 tw_4_74, np_yX0_copy, by decide⟩
theorem wv_RX11_220_yX10_pass : mh_cV RX11 220 yX10_pass cX10_pass 4 (some .boolean) 2 := ⟨mh_ok5 tw_4_75 tw_3_222 tw_3_223 tw_1_10 tw_3_224, np_yX10_pass, by decide⟩
theorem wv_RX11_224_yX0_standsSweet : mh_cV RX11 224 yX0_standsSweet cX0_standsSweet 1 (some .boolean) 0 := ⟨mh_ok5 tw_4_80 tw_4_81 tw_4_82 tw_1_20 tw_4_83, np_yX0_standsSweet, by decide⟩
theorem wv_RX11_227_yX6_prepare : mh_cV RX11 227 yX6_prepare cX6_prepare 5 none 3 := ⟨mh_ok5 tw_4_85 tw_4_86 tw_4_87 tw_1_9 tw_4_88, np_yX6_prepare, by decide⟩
theorem wv_RX11_231_yX6_sourInTown : mh_cV RX11 231 yX6_sourInTown cX6_sourInTown 2 (some .int) 0 := ⟨mh_ok5 tw_4_109 tw_4_110 tw_4_111 tw_1_9 tw_4_112, np_yX6_sourInTown, by decide⟩
theorem wv_RX11_234_yX6_choiceAt : mh_cV RX11 234 yX6_choiceAt cX6_choiceAt 7 (some .int) 1 := ⟨mh_ok5 tw_4_126 tw_4_127 tw_4_128 tw_1_9 tw_4_129, np_yX6_choiceAt, by decide⟩
theorem wv_RX11_237_yX11_whereItTurns : mh_cV RX11 237 yX11_whereItTurns cX11_whereItTurns 7 (some .int) 2 := ⟨mh_ok5 tw_4_139 tw_4_141 tp_19 tw_1_1 tw_4_142, np_yX11_whereItTurns, by decide⟩
theorem wv_RX11_241_yX10_ride : mh_cV RX11 241 yX10_ride cX10_ride 6 (some .int) 3 := ⟨mh_ok5 tw_4_148 tw_4_149 tw_4_150 tw_1_10 tw_4_151, np_yX10_ride, by decide⟩
theorem wv_RX11_245_yX10_worth : mh_cV RX11 245 yX10_worth cX10_worth 2 (some .int) 1 := ⟨mh_ok5 tw_4_153 tw_4_45 tw_4_46 tw_1_10 tw_4_47, np_yX10_worth, by decide⟩
theorem wv_RX11_248_yX6_sourWithCellar : mh_cV RX11 248 yX6_sourWithCellar cX6_sourWithCellar 5 (some .int) 3 := ⟨mh_ok5 tw_4_158 tw_4_159 tw_4_160 tw_1_9 tw_4_161, np_yX6_sourWithCellar, by decide⟩
theorem wu_RX11_262_RX1 : mh_cU RX11 262 RX1 "MilkHills$Kind" yX3_fills yX3_fills cX3_fills 4 (some .int) 3 cX3_fills 4 (some .int) := ⟨mh_ok8 tw_4_181 tw_4_184 tw_4_182 tw_4_185 tw_4_182 tw_1_2 tw_4_198 tw_4_198, ⟨by decide +kernel, by decide +kernel, by decide +kernel⟩, by decide⟩
theorem wu_RX11_262_RX2 : mh_cU RX11 262 RX2 "MilkHills$Kind" yX3_fills yX3_fills cX3_fills 4 (some .int) 3 cX3_fills 4 (some .int) := ⟨mh_ok8 tw_4_181 tw_4_184 tw_4_182 tw_4_186 tw_4_182 tw_1_2 tw_4_198 tw_4_198, ⟨by decide +kernel, by decide +kernel, by decide +kernel⟩, by decide⟩
theorem wv_RX11_262_yX3_fills : mh_cV RX11 262 yX3_fills cX3_fills 4 (some .int) 3 := ⟨mh_ok5 tw_4_181 tw_4_182 tw_4_183 tw_1_2 tw_4_198, np_yX3_fills, by decide⟩
theorem wu_RX11_262_RX4 : mh_cU RX11 262 RX4 "MilkHills$Kind" yX3_fills yX4_fills cX4_fills 4 (some .int) 3 cX3_fills 4 (some .int) := ⟨mh_ok8 tw_4_181 tw_4_184 tw_4_182 tw_4_187 tw_4_188 tw_1_4 tw_4_189 tw_4_198, ⟨by decide +kernel, by decide +kernel, by decide +kernel⟩, by decide⟩
theorem wu_RX11_262_RX5 : mh_cU RX11 262 RX5 "MilkHills$Kind" yX3_fills yX3_fills cX3_fills 4 (some .int) 3 cX3_fills 4 (some .int) := ⟨mh_ok8 tw_4_181 tw_4_184 tw_4_182 tw_4_195 tw_4_182 tw_1_2 tw_4_198 tw_4_198, ⟨by decide +kernel, by decide +kernel, by decide +kernel⟩, by decide⟩
theorem wu_RX11_262_RX7 : mh_cU RX11 262 RX7 "MilkHills$Kind" yX3_fills yX3_fills cX3_fills 4 (some .int) 3 cX3_fills 4 (some .int) := ⟨mh_ok8 tw_4_181 tw_4_184 tw_4_182 tw_4_196 tw_4_182 tw_1_2 tw_4_198 tw_4_198, ⟨by decide +kernel, by decide +kernel, by decide +kernel⟩, by decide⟩
theorem wu_RX11_262_RX8 : mh_cU RX11 262 RX8 "MilkHills$Kind" yX3_fills yX4_fills cX4_fills 4 (some .int) 3 cX3_fills 4 (some .int) := ⟨mh_ok8 tw_4_181 tw_4_184 tw_4_182 tw_4_197 tw_4_188 tw_1_4 tw_4_189 tw_4_198, ⟨by decide +kernel, by decide +kernel, by decide +kernel⟩, by decide⟩
theorem wu_RX11_266_RX1 : mh_cU RX11 266 RX1 "MilkHills$Kind" yX3_shakes yX3_shakes cX3_shakes 4 (some .int) 3 cX3_shakes 4 (some .int) := ⟨mh_ok8 tw_4_200 tw_4_203 tw_4_201 tw_4_204 tw_4_201 tw_1_2 tw_5_1 tw_5_1, ⟨by decide +kernel, by decide +kernel, by decide +kernel⟩, by decide⟩
theorem wu_RX11_266_RX2 : mh_cU RX11 266 RX2 "MilkHills$Kind" yX3_shakes yX2_shakes cX2_shakes 5 (some .int) 3 cX3_shakes 4 (some .int) := ⟨mh_ok8 tw_4_200 tw_4_203 tw_4_201 tw_4_205 tw_4_206 tw_1_3 tw_4_207 tw_5_1, ⟨by decide +kernel, by decide +kernel, by decide +kernel⟩, by decide⟩
theorem wv_RX11_266_yX3_shakes : mh_cV RX11 266 yX3_shakes cX3_shakes 4 (some .int) 3 := ⟨mh_ok5 tw_4_200 tw_4_201 tw_4_202 tw_1_2 tw_5_1, np_yX3_shakes, by decide⟩
theorem wu_RX11_266_RX4 : mh_cU RX11 266 RX4 "MilkHills$Kind" yX3_shakes yX3_shakes cX3_shakes 4 (some .int) 3 cX3_shakes 4 (some .int) := ⟨mh_ok8 tw_4_200 tw_4_203 tw_4_201 tw_4_232 tw_4_201 tw_1_2 tw_5_1 tw_5_1, ⟨by decide +kernel, by decide +kernel, by decide +kernel⟩, by decide⟩
theorem wu_RX11_266_RX5 : mh_cU RX11 266 RX5 "MilkHills$Kind" yX3_shakes yX3_shakes cX3_shakes 4 (some .int) 3 cX3_shakes 4 (some .int) := ⟨mh_ok8 tw_4_200 tw_4_203 tw_4_201 tw_4_233 tw_4_201 tw_1_2 tw_5_1 tw_5_1, ⟨by decide +kernel, by decide +kernel, by decide +kernel⟩, by decide⟩
theorem wu_RX11_266_RX7 : mh_cU RX11 266 RX7 "MilkHills$Kind" yX3_shakes yX7_shakes cX7_shakes 4 (some .int) 3 cX3_shakes 4 (some .int) := ⟨mh_ok8 tw_4_200 tw_4_203 tw_4_201 tw_4_234 tw_4_235 tw_1_6 tw_4_236 tw_5_1, ⟨by decide +kernel, by decide +kernel, by decide +kernel⟩, by decide⟩
theorem wu_RX11_266_RX8 : mh_cU RX11 266 RX8 "MilkHills$Kind" yX3_shakes yX3_shakes cX3_shakes 4 (some .int) 3 cX3_shakes 4 (some .int) := ⟨mh_ok8 tw_4_200 tw_4_203 tw_4_201 tw_5_0 tw_4_201 tw_1_2 tw_5_1 tw_5_1, ⟨by decide +kernel, by decide +kernel, by decide +kernel⟩, by decide⟩
theorem wu_RX11_268_RX1 : mh_cU RX11 268 RX1 "MilkHills$Kind" yX3_cools yX1_cools cX1_cools 4 (some .int) 3 cX3_cools 4 (some .int) := ⟨mh_ok8 tw_5_3 tw_4_214 tw_4_212 tw_4_215 tw_4_216 tw_1_5 tw_4_217 tw_4_231, ⟨by decide +kernel, by decide +kernel, by decide +kernel⟩, by decide⟩
theorem wu_RX11_268_RX2 : mh_cU RX11 268 RX2 "MilkHills$Kind" yX3_cools yX3_cools cX3_cools 4 (some .int) 3 cX3_cools 4 (some .int) := ⟨mh_ok8 tw_5_3 tw_4_214 tw_4_212 tw_4_221 tw_4_212 tw_1_2 tw_4_231 tw_4_231, ⟨by decide +kernel, by decide +kernel, by decide +kernel⟩, by decide⟩
theorem wv_RX11_268_yX3_cools : mh_cV RX11 268 yX3_cools cX3_cools 4 (some .int) 3 := ⟨mh_ok5 tw_5_3 tw_4_212 tw_4_213 tw_1_2 tw_4_231, np_yX3_cools, by decide⟩
theorem wu_RX11_268_RX4 : mh_cU RX11 268 RX4 "MilkHills$Kind" yX3_cools yX3_cools cX3_cools 4 (some .int) 3 cX3_cools 4 (some .int) := ⟨mh_ok8 tw_5_3 tw_4_214 tw_4_212 tw_4_222 tw_4_212 tw_1_2 tw_4_231 tw_4_231, ⟨by decide +kernel, by decide +kernel, by decide +kernel⟩, by decide⟩
theorem wu_RX11_268_RX5 : mh_cU RX11 268 RX5 "MilkHills$Kind" yX3_cools yX5_cools cX5_cools 4 (some .int) 3 cX3_cools 4 (some .int) := ⟨mh_ok8 tw_5_3 tw_4_214 tw_4_212 tw_4_223 tw_4_224 tw_1_8 tw_4_225 tw_4_231, ⟨by decide +kernel, by decide +kernel, by decide +kernel⟩, by decide⟩
theorem wu_RX11_268_RX7 : mh_cU RX11 268 RX7 "MilkHills$Kind" yX3_cools yX3_cools cX3_cools 4 (some .int) 3 cX3_cools 4 (some .int) := ⟨mh_ok8 tw_5_3 tw_4_214 tw_4_212 tw_4_229 tw_4_212 tw_1_2 tw_4_231 tw_4_231, ⟨by decide +kernel, by decide +kernel, by decide +kernel⟩, by decide⟩
theorem wu_RX11_268_RX8 : mh_cU RX11 268 RX8 "MilkHills$Kind" yX3_cools yX3_cools cX3_cools 4 (some .int) 3 cX3_cools 4 (some .int) := ⟨mh_ok8 tw_5_3 tw_4_214 tw_4_212 tw_4_230 tw_4_212 tw_1_2 tw_4_231 tw_4_231, ⟨by decide +kernel, by decide +kernel, by decide +kernel⟩, by decide⟩
theorem wu_RX11_271_RX1 : mh_cU RX11 271 RX1 "MilkHills$Kind" yX3_tells yX3_tells cX3_tells 5 (some .int) 3 cX3_tells 5 (some .int) := ⟨mh_ok8 tw_5_4 tw_5_7 tw_5_5 tw_5_8 tw_5_5 tw_1_2 tw_5_27 tw_5_27, ⟨by decide +kernel, by decide +kernel, by decide +kernel⟩, by decide⟩
theorem wu_RX11_271_RX2 : mh_cU RX11 271 RX2 "MilkHills$Kind" yX3_tells yX3_tells cX3_tells 5 (some .int) 3 cX3_tells 5 (some .int) := ⟨mh_ok8 tw_5_4 tw_5_7 tw_5_5 tw_5_9 tw_5_5 tw_1_2 tw_5_27 tw_5_27, ⟨by decide +kernel, by decide +kernel, by decide +kernel⟩, by decide⟩
theorem wv_RX11_271_yX3_tells : mh_cV RX11 271 yX3_tells cX3_tells 5 (some .int) 3 := ⟨mh_ok5 tw_5_4 tw_5_5 tw_5_6 tw_1_2 tw_5_27, np_yX3_tells, by decide⟩
theorem wu_RX11_271_RX4 : mh_cU RX11 271 RX4 "MilkHills$Kind" yX3_tells yX3_tells cX3_tells 5 (some .int) 3 cX3_tells 5 (some .int) := ⟨mh_ok8 tw_5_4 tw_5_7 tw_5_5 tw_5_10 tw_5_5 tw_1_2 tw_5_27 tw_5_27, ⟨by decide +kernel, by decide +kernel, by decide +kernel⟩, by decide⟩
theorem wu_RX11_271_RX5 : mh_cU RX11 271 RX5 "MilkHills$Kind" yX3_tells yX5_tells cX5_tells 5 (some .int) 3 cX3_tells 5 (some .int) := ⟨mh_ok8 tw_5_4 tw_5_7 tw_5_5 tw_5_11 tw_5_12 tw_1_8 tw_5_13 tw_5_27, ⟨by decide +kernel, by decide +kernel, by decide +kernel⟩, by decide⟩
theorem wu_RX11_271_RX7 : mh_cU RX11 271 RX7 "MilkHills$Kind" yX3_tells yX3_tells cX3_tells 5 (some .int) 3 cX3_tells 5 (some .int) := ⟨mh_ok8 tw_5_4 tw_5_7 tw_5_5 tw_5_18 tw_5_5 tw_1_2 tw_5_27 tw_5_27, ⟨by decide +kernel, by decide +kernel, by decide +kernel⟩, by decide⟩
theorem wu_RX11_271_RX8 : mh_cU RX11 271 RX8 "MilkHills$Kind" yX3_tells yX8_tells cX8_tells 5 (some .int) 3 cX3_tells 5 (some .int) := ⟨mh_ok8 tw_5_4 tw_5_7 tw_5_5 tw_5_19 tw_5_20 tw_1_7 tw_5_21 tw_5_27, ⟨by decide +kernel, by decide +kernel, by decide +kernel⟩, by decide⟩
theorem ws_RX11_274 : mh_cS RX11 274 yX11_isSheet cX11_isSheet 1 (some .boolean) 1 := ⟨mh_ok4 tw_5_38 tw_5_39 tw_1_1 tw_5_40, np_yX11_isSheet, by decide⟩
theorem ws_RX11_277 : mh_cS RX11 277 yJ7_fill_53178 cJ7_fill_53178 4 none 2 := ⟨mh_ok4 tw_5_41 tw_2_112 tw_1_19 tw_2_113, np_yJ7_fill_53178, by decide⟩
theorem wv_RX11_283_yX11_stand : mh_cV RX11 283 yX11_stand cX11_stand 4 (some .boolean) 3 := ⟨mh_ok5 tw_5_50 tw_5_52 tp_20 tw_1_1 tw_5_53, np_yX11_stand, by decide⟩
theorem wv_RX11_297_yX0_state : mh_cV RX11 297 yX0_state cX0_state 1 (some .int) 0 := ⟨mh_ok5 tw_4_143 tw_3_107 tw_3_108 tw_1_20 tw_3_109, np_yX0_state, by decide⟩
theorem wv_RX11_300_yX10_copy : mh_cV RX11 300 yX10_copy cX10_copy 3 none 1 := ⟨mh_ok5 tw_5_68 tw_5_69 tw_5_70 tw_1_10 tw_5_71, np_yX10_copy, by decide⟩
theorem wv_RX11_312_yX11_sourBehindNext : mh_cV RX11 312 yX11_sourBehindNext cX11_sourBehindNext 4 (some .int) 1 := ⟨mh_ok5 tw_5_90 tw_5_92 tp_21 tw_1_1 tw_5_93, np_yX11_sourBehindNext, by decide⟩
theorem wv_RX11_315_yX10_howMany : mh_cV RX11 315 yX10_howMany cX10_howMany 4 (some .int) 1 := ⟨mh_ok5 tw_5_98 tw_5_99 tw_5_100 tw_1_10 tw_5_101, np_yX10_howMany, by decide⟩
theorem wv_RX11_318_yX10_sweetOnes : mh_cV RX11 318 yX10_sweetOnes cX10_sweetOnes 3 (some .int) 0 := ⟨mh_ok5 tw_5_102 tw_5_103 tw_5_104 tw_1_10 tw_5_105, np_yX10_sweetOnes, by decide⟩
theorem ws_RX12_63 : mh_cS RX12 63 yX12_become cX12_become 3 none 2 := ⟨mh_ok4 tw_7_19 tw_7_20 tw_1_21 tw_7_21, np_yX12_become, by decide⟩
theorem ws_RX12_69 : mh_cS RX12 69 yX12_in cX12_in 6 (some .boolean) 3 := ⟨mh_ok4 tw_5_216 tw_5_217 tw_1_21 tw_5_218, np_yX12_in, by decide⟩
theorem ws_RX12_75 : mh_cS RX12 75 yX12_aboveOf cX12_aboveOf 1 (some .int) 1 := ⟨mh_ok4 tw_6_90 tw_6_91 tw_1_21 tw_6_92, np_yX12_aboveOf, by decide⟩
theorem wv_RX12_79_yX12_its : mh_cV RX12 79 yX12_its cX12_its 3 (some .int) 2 := ⟨mh_ok5 tw_5_232 tw_5_234 tp_24 tw_1_21 tw_5_235, np_yX12_its, by decide⟩
theorem ws_RX12_82 : mh_cS RX12 82 yX12_turns cX12_turns 2 (some .int) 2 := ⟨mh_ok4 tw_6_75 tw_6_76 tw_1_21 tw_6_77, np_yX12_turns, by decide⟩
theorem wv_RX12_85_yX12_stateBy : mh_cV RX12 85 yX12_stateBy cX12_stateBy 4 (some .int) 3 := ⟨mh_ok5 tw_6_71 tw_6_73 tp_35 tw_1_21 tw_6_74, np_yX12_stateBy, by decide⟩
theorem ws_RX12_89 : mh_cS RX12 89 yX12_done cX12_done 3 (some .int) 3 := ⟨mh_ok4 tw_6_17 tw_6_18 tw_1_21 tw_6_19, np_yX12_done, by decide⟩
theorem wv_RX12_92_yX12_worked : mh_cV RX12 92 yX12_worked cX12_worked 5 (some .int) 1 := ⟨mh_ok5 tw_6_13 tw_6_15 tp_28 tw_1_21 tw_6_16, np_yX12_worked, by decide⟩
theorem ws_RX12_95 : mh_cS RX12 95 yX12_held cX12_held 3 (some .int) 3 := ⟨mh_ok4 tw_6_20 tw_6_21 tw_1_21 tw_6_22, np_yX12_held, by decide⟩
theorem wv_RX12_98_yX12_ofHillNow : mh_cV RX12 98 yX12_ofHillNow cX12_ofHillNow 3 (some .int) 2 := ⟨mh_ok5 tw_5_236 tw_5_238 tp_25 tw_1_21 tw_5_239, np_yX12_ofHillNow, by decide⟩
theorem wv_RX12_101_yX12_lawBy : mh_cV RX12 101 yX12_lawBy cX12_lawBy 6 (some .int) 4 := ⟨mh_ok5 tw_6_9 tw_6_11 tp_27 tw_1_21 tw_6_12, np_yX12_lawBy, by decide⟩
theorem ws_RX12_105 : mh_cS RX12 105 yX12_isHill cX12_isHill 1 (some .boolean) 1 := ⟨mh_ok4 tw_5_212 tw_5_213 tw_1_21 tw_5_214, np_yX12_isHill, by decide⟩
theorem ws_RX12_111 : mh_cS RX12 111 yX12_mostOf cX12_mostOf 1 (some .int) 1 := ⟨mh_ok4 tw_5_220 tw_5_221 tw_1_21 tw_5_222, np_yX12_mostOf, by decide⟩
theorem wv_RX12_114_yX12_error : mh_cV RX12 114 yX12_error cX12_error 2 (some .int) 1 := ⟨mh_ok5 tw_5_223 tw_5_225 tp_22 tw_1_21 tw_5_226, np_yX12_error, by decide⟩
theorem wv_RX12_117_yX12_inBrook : mh_cV RX12 117 yX12_inBrook cX12_inBrook 4 (some .int) 1 := ⟨mh_ok5 tw_5_228 tw_5_230 tp_23 tw_1_21 tw_5_231, np_yX12_inBrook, by decide⟩
theorem wv_RX12_122_yX12_warm : mh_cV RX12 122 yX12_warm cX12_warm 3 (some .int) 2 := ⟨mh_ok5 tw_6_5 tw_6_7 tp_26 tw_1_21 tw_6_8, np_yX12_warm, by decide⟩
theorem ws_RX12_125 : mh_cS RX12 125 yX12_isCarrier cX12_isCarrier 1 (some .boolean) 1 := ⟨mh_ok4 tw_6_29 tw_6_30 tw_1_21 tw_6_31, np_yX12_isCarrier, by decide⟩
theorem wv_RX12_132_yX12_pace : mh_cV RX12 132 yX12_pace cX12_pace 2 (some .int) 1 := ⟨mh_ok5 tw_6_35 tw_6_37 tp_29 tw_1_21 tw_6_38, np_yX12_pace, by decide⟩
theorem ws_RX12_137 : mh_cS RX12 137 yX12_isKind cX12_isKind 1 (some .boolean) 1 := ⟨mh_ok4 tw_6_43 tw_6_44 tw_1_21 tw_6_45, np_yX12_isKind, by decide⟩
theorem wv_RX12_140_yX12_sets : mh_cV RX12 140 yX12_sets cX12_sets 4 none 3 := ⟨mh_ok5 tw_6_47 tw_6_49 tp_30 tw_1_21 tw_6_50, np_yX12_sets, by decide⟩
theorem wv_RX12_144_yX12_anew : mh_cV RX12 144 yX12_anew cX12_anew 3 none 1 := ⟨mh_ok5 tw_6_51 tw_6_53 tp_31 tw_1_21 tw_6_54, np_yX12_anew, by decide⟩
theorem wv_RX12_148_yX12_isChurn : mh_cV RX12 148 yX12_isChurn cX12_isChurn 2 (some .boolean) 1 := ⟨mh_ok5 tw_6_59 tw_6_61 tp_32 tw_1_21 tw_6_62, np_yX12_isChurn, by decide⟩
theorem wv_RX12_151_yX12_told : mh_cV RX12 151 yX12_told cX12_told 4 (some .int) 2 := ⟨mh_ok5 tw_6_63 tw_6_65 tp_33 tw_1_21 tw_6_66, np_yX12_told, by decide⟩
theorem wv_RX12_154_yX12_stateOf : mh_cV RX12 154 yX12_stateOf cX12_stateOf 2 (some .int) 1 := ⟨mh_ok5 tw_6_67 tw_6_69 tp_34 tw_1_21 tw_6_70, np_yX12_stateOf, by decide⟩
theorem ws_RX12_159 : mh_cS RX12 159 yX12_isUnder cX12_isUnder 2 (some .boolean) 2 := ⟨mh_ok4 tw_6_87 tw_6_88 tw_1_21 tw_6_89, np_yX12_isUnder, by decide⟩
theorem wv_RX12_163_yX12_stands : mh_cV RX12 163 yX12_stands cX12_stands 2 (some .boolean) 1 := ⟨mh_ok5 tw_6_97 tw_6_99 tp_36 tw_1_21 tw_6_100, np_yX12_stands, by decide⟩
theorem wv_RX12_166_yX12_leaves : mh_cV RX12 166 yX12_leaves cX12_leaves 3 none 2 := ⟨mh_ok5 tw_6_101 tw_6_103 tp_37 tw_1_21 tw_6_104, np_yX12_leaves, by decide⟩
theorem wv_RX12_172_yX12_cheese : mh_cV RX12 172 yX12_cheese cX12_cheese 3 (some .int) 2 := ⟨mh_ok5 tw_6_117 tw_6_119 tp_38 tw_1_21 tw_6_120, np_yX12_cheese, by decide⟩
theorem wv_RX12_175_yX12_takes : mh_cV RX12 175 yX12_takes cX12_takes 2 none 1 := ⟨mh_ok5 tw_6_121 tw_6_123 tp_39 tw_1_21 tw_6_124, np_yX12_takes, by decide⟩
theorem wv_RX12_188_yX12_here : mh_cV RX12 188 yX12_here cX12_here 1 (some .int) 0 := ⟨mh_ok5 tw_6_168 tw_6_170 tp_47 tw_1_21 tw_6_171, np_yX12_here, by decide⟩
theorem wv_RX12_202_yX12_isDigit : mh_cV RX12 202 yX12_isDigit cX12_isDigit 1 (some .boolean) 0 := ⟨mh_ok5 tw_6_172 tw_6_174 tp_48 tw_1_21 tw_6_175, np_yX12_isDigit, by decide⟩
theorem wv_RX12_206_yX12_puts : mh_cV RX12 206 yX12_puts cX12_puts 2 none 1 := ⟨mh_ok5 tw_6_182 tw_6_184 tp_50 tw_1_21 tw_6_185, np_yX12_puts, by decide⟩
theorem wv_RX12_212_yX12_nameHere : mh_cV RX12 212 yX12_nameHere cX12_nameHere 2 (some .int) 0 := ⟨mh_ok5 tw_6_164 tw_6_166 tp_46 tw_1_21 tw_6_167, np_yX12_nameHere, by decide⟩
theorem wv_RX12_215_yX12_numberRead : mh_cV RX12 215 yX12_numberRead cX12_numberRead 3 none 0 := ⟨mh_ok5 tw_6_178 tw_6_180 tp_49 tw_1_21 tw_6_181, np_yX12_numberRead, by decide⟩
theorem wv_RX12_218_yX12_opens : mh_cV RX12 218 yX12_opens cX12_opens 1 none 0 := ⟨mh_ok5 tw_6_186 tw_6_188 tp_51 tw_1_21 tw_6_189, np_yX12_opens, by decide⟩
theorem wv_RX12_221_yX12_q : mh_cV RX12 221 yX12_q cX12_q 2 none 0 := ⟨mh_ok5 tw_6_160 tw_6_162 tp_45 tw_1_21 tw_6_163, np_yX12_q, by decide⟩
theorem wv_RX12_224_yX12_t : mh_cV RX12 224 yX12_t cX12_t 1 none 0 := ⟨mh_ok5 tw_6_140 tw_6_142 tp_40 tw_1_21 tw_6_143, np_yX12_t, by decide⟩
theorem wv_RX12_227_yX12_takes_ : mh_cV RX12 227 yX12_takes_ cX12_takes_ 3 (some .boolean) 1 := ⟨mh_ok5 tw_6_190 tw_6_192 tp_52 tw_1_21 tw_6_193, np_yX12_takes_, by decide⟩
theorem wv_RX12_230_yX12_p : mh_cV RX12 230 yX12_p cX12_p 2 none 0 := ⟨mh_ok5 tw_6_156 tw_6_158 tp_44 tw_1_21 tw_6_159, np_yX12_p, by decide⟩
theorem wv_RX12_233_yX12_sum : mh_cV RX12 233 yX12_sum cX12_sum 2 none 0 := ⟨mh_ok5 tw_6_152 tw_6_154 tp_43 tw_1_21 tw_6_155, np_yX12_sum, by decide⟩
theorem wv_RX12_236_yX12_b : mh_cV RX12 236 yX12_b cX12_b 2 none 0 := ⟨mh_ok5 tw_6_148 tw_6_150 tp_42 tw_1_21 tw_6_151, np_yX12_b, by decide⟩
theorem wv_RX12_239_yX12_a : mh_cV RX12 239 yX12_a cX12_a 1 none 0 := ⟨mh_ok5 tw_6_144 tw_6_146 tp_41 tw_1_21 tw_6_147, np_yX12_a, by decide⟩
theorem ws_RX12_242 : mh_cS RX12 242 yX12_warms cX12_warms 3 (some .int) 3 := ⟨mh_ok4 tw_6_211 tw_6_212 tw_1_21 tw_6_213, np_yX12_warms, by decide⟩
theorem wv_RX12_245_yX12_sours : mh_cV RX12 245 yX12_sours cX12_sours 3 none 2 := ⟨mh_ok5 tw_6_214 tw_6_216 tp_55 tw_1_21 tw_6_217, np_yX12_sours, by decide⟩
theorem wv_RX12_248_yX12_shake : mh_cV RX12 248 yX12_shake cX12_shake 2 (some .int) 1 := ⟨mh_ok5 tw_6_218 tw_6_220 tp_56 tw_1_21 tw_6_221, np_yX12_shake, by decide⟩
theorem ws_RX12_251 : mh_cS RX12 251 yX12_jolts cX12_jolts 3 (some .int) 3 := ⟨mh_ok4 tw_6_222 tw_6_223 tw_1_21 tw_6_224, np_yX12_jolts, by decide⟩
theorem wv_RX12_254_yX12_comes : mh_cV RX12 254 yX12_comes cX12_comes 3 none 1 := ⟨mh_ok5 tw_6_225 tw_6_227 tp_57 tw_1_21 tw_6_228, np_yX12_comes, by decide⟩
theorem wv_RX12_257_yX12_worth : mh_cV RX12 257 yX12_worth cX12_worth 4 (some .int) 3 := ⟨mh_ok5 tw_6_229 tw_6_231 tp_58 tw_1_21 tw_6_232, np_yX12_worth, by decide⟩
theorem wv_RX12_260_yX12_goesOn : mh_cV RX12 260 yX12_goesOn cX12_goesOn 4 none 1 := ⟨mh_ok5 tw_6_207 tw_6_209 tp_54 tw_1_21 tw_6_210, np_yX12_goesOn, by decide⟩
theorem wv_RX12_265_yX12_aQuarter : mh_cV RX12 265 yX12_aQuarter cX12_aQuarter 2 none 0 := ⟨mh_ok5 tw_6_203 tw_6_205 tp_53 tw_1_21 tw_6_206, np_yX12_aQuarter, by decide⟩
theorem wv_RX12_269_yX12_draw : mh_cV RX12 269 yX12_draw cX12_draw 1 (some .int) 0 := ⟨mh_ok5 tw_6_237 tw_6_239 tp_59 tw_1_21 tw_7_0, np_yX12_draw, by decide⟩
theorem wv_RX12_272_yX12_thunders : mh_cV RX12 272 yX12_thunders cX12_thunders 3 (some .int) 0 := ⟨mh_ok5 tw_7_2 tw_7_4 tp_60 tw_1_21 tw_7_5, np_yX12_thunders, by decide⟩
theorem wv_RX12_277_yX12_lends : mh_cV RX12 277 yX12_lends cX12_lends 1 none 0 := ⟨mh_ok5 tw_7_15 tw_7_17 tp_61 tw_1_21 tw_7_18, np_yX12_lends, by decide⟩
theorem wv_RX12_280_yX12_laysBack : mh_cV RX12 280 yX12_laysBack cX12_laysBack 1 none 0 := ⟨mh_ok5 tw_7_22 tw_7_24 tp_62 tw_1_21 tw_7_25, np_yX12_laysBack, by decide⟩
theorem wv_RX12_284_yX12_warmedIn : mh_cV RX12 284 yX12_warmedIn cX12_warmedIn 4 (some .int) 3 := ⟨mh_ok5 tw_7_56 tw_7_58 tp_68 tw_1_21 tw_7_59, np_yX12_warmedIn, by decide⟩
theorem ws_RX12_287 : mh_cS RX12 287 yX12_placeOf cX12_placeOf 3 (some .int) 3 := ⟨mh_ok4 tw_7_44 tw_7_45 tw_1_21 tw_7_46, np_yX12_placeOf, by decide⟩
theorem wv_RX12_293_yX12_leastBy : mh_cV RX12 293 yX12_leastBy cX12_leastBy 12 (some .int) 7 := ⟨mh_ok5 tw_7_52 tw_7_54 tp_67 tw_1_21 tw_7_55, np_yX12_leastBy, by decide⟩
theorem wv_RX12_297_yX12_findWarmed : mh_cV RX12 297 yX12_findWarmed cX12_findWarmed 5 none 1 := ⟨mh_ok5 tw_7_40 tw_7_42 tp_65 tw_1_21 tw_7_43, np_yX12_findWarmed, by decide⟩
theorem wv_RX12_300_yX12_leastFrom : mh_cV RX12 300 yX12_leastFrom cX12_leastFrom 9 (some .int) 5 := ⟨mh_ok5 tw_7_47 tw_7_49 tp_66 tw_1_21 tw_7_50, np_yX12_leastFrom, by decide⟩
theorem wv_RX12_308_yX12_mayRelay : mh_cV RX12 308 yX12_mayRelay cX12_mayRelay 2 (some .boolean) 1 := ⟨mh_ok5 tw_7_32 tw_7_34 tp_63 tw_1_21 tw_7_35, np_yX12_mayRelay, by decide⟩
theorem wv_RX12_311_yX12_relayed : mh_cV RX12 311 yX12_relayed cX12_relayed 6 (some .int) 2 := ⟨mh_ok5 tw_7_36 tw_7_38 tp_64 tw_1_21 tw_7_39, np_yX12_relayed, by decide⟩
theorem wv_RX12_314_yX12_wayAt : mh_cV RX12 314 yX12_wayAt cX12_wayAt 9 (some .int) 3 := ⟨mh_ok5 tw_7_60 tw_7_62 tp_69 tw_1_21 tw_7_63, np_yX12_wayAt, by decide⟩
theorem wv_RX12_329_yX12_straight : mh_cV RX12 329 yX12_straight cX12_straight 5 none 2 := ⟨mh_ok5 tw_7_72 tw_7_74 tp_71 tw_1_21 tw_7_75, np_yX12_straight, by decide⟩
theorem wv_RX12_332_yX12_begins : mh_cV RX12 332 yX12_begins cX12_begins 5 none 4 := ⟨mh_ok5 tw_7_68 tw_7_70 tp_70 tw_1_21 tw_7_71, np_yX12_begins, by decide⟩
theorem wv_RX12_336_yX12_straightOn : mh_cV RX12 336 yX12_straightOn cX12_straightOn 4 none 2 := ⟨mh_ok5 tw_7_80 tw_7_82 tp_72 tw_1_21 tw_7_83, np_yX12_straightOn, by decide⟩
theorem wv_RX12_351_yX12_runs : mh_cV RX12 351 yX12_runs cX12_runs 2 none 1 := ⟨mh_ok5 tw_7_111 tw_7_113 tp_74 tw_1_21 tw_7_114, np_yX12_runs, by decide⟩
theorem wv_RX12_357_yX12_fills : mh_cV RX12 357 yX12_fills cX12_fills 2 (some .int) 1 := ⟨mh_ok5 tw_7_107 tw_7_109 tp_73 tw_1_21 tw_7_110, np_yX12_fills, by decide⟩
theorem wv_RX12_360_yX12_plainShakes : mh_cV RX12 360 yX12_plainShakes cX12_plainShakes 2 (some .int) 1 := ⟨mh_ok5 tw_7_123 tw_7_125 tp_77 tw_1_21 tw_7_126, np_yX12_plainShakes, by decide⟩
theorem wv_RX12_363_yX12_cools : mh_cV RX12 363 yX12_cools cX12_cools 2 (some .int) 1 := ⟨mh_ok5 tw_7_127 tw_7_129 tp_78 tw_1_21 tw_7_130, np_yX12_cools, by decide⟩
theorem wv_RX12_366_yX12_goatsShakes : mh_cV RX12 366 yX12_goatsShakes cX12_goatsShakes 3 (some .int) 1 := ⟨mh_ok5 tw_7_119 tw_7_121 tp_76 tw_1_21 tw_7_122, np_yX12_goatsShakes, by decide⟩
theorem wv_RX12_372_yX12_plainCools : mh_cV RX12 372 yX12_plainCools cX12_plainCools 2 (some .int) 1 := ⟨mh_ok5 tw_7_135 tw_7_137 tp_80 tw_1_21 tw_7_138, np_yX12_plainCools, by decide⟩
theorem wv_RX12_375_yX12_creamedCools : mh_cV RX12 375 yX12_creamedCools cX12_creamedCools 2 (some .int) 1 := ⟨mh_ok5 tw_7_131 tw_7_133 tp_79 tw_1_21 tw_7_134, np_yX12_creamedCools, by decide⟩
theorem wv_RX12_378_yX12_shakes : mh_cV RX12 378 yX12_shakes cX12_shakes 2 (some .int) 1 := ⟨mh_ok5 tw_7_115 tw_7_117 tp_75 tw_1_21 tw_7_118, np_yX12_shakes, by decide⟩
theorem wv_RX12_381_yX12_plainTells : mh_cV RX12 381 yX12_plainTells cX12_plainTells 3 (some .int) 1 := ⟨mh_ok5 tw_7_143 tw_7_145 tp_82 tw_1_21 tw_7_146, np_yX12_plainTells, by decide⟩
theorem wv_RX12_384_yX12_tells : mh_cV RX12 384 yX12_tells cX12_tells 3 (some .int) 1 := ⟨mh_ok5 tw_7_139 tw_7_141 tp_81 tw_1_21 tw_7_142, np_yX12_tells, by decide⟩
theorem ws_RX12_387 : mh_cS RX12 387 yX12_isSheet cX12_isSheet 1 (some .boolean) 1 := ⟨mh_ok4 tw_7_155 tw_7_156 tw_1_21 tw_7_157, np_yX12_isSheet, by decide⟩
theorem wv_RX12_390_yX12_lacks : mh_cV RX12 390 yX12_lacks cX12_lacks 2 (some .int) 1 := ⟨mh_ok5 tw_7_162 tw_7_164 tp_83 tw_1_21 tw_7_165, np_yX12_lacks, by decide⟩
theorem wv_RX12_401_yX12_allSour : mh_cV RX12 401 yX12_allSour cX12_allSour 3 (some .int) 0 := ⟨mh_ok5 tw_7_195 tw_7_197 tp_84 tw_1_21 tw_7_198, np_yX12_allSour, by decide⟩
theorem wv_RX12_404_yX12_howMany : mh_cV RX12 404 yX12_howMany cX12_howMany 4 (some .int) 1 := ⟨mh_ok5 tw_7_203 tw_7_205 tp_85 tw_1_21 tw_7_206, np_yX12_howMany, by decide⟩
theorem wv_RX12_407_yX12_sweet : mh_cV RX12 407 yX12_sweet cX12_sweet 3 (some .int) 0 := ⟨mh_ok5 tw_7_207 tw_7_209 tp_86 tw_1_21 tw_7_210, np_yX12_sweet, by decide⟩
theorem wv_RL_13_yX11_hill : mh_cV RL 13 yX11_hill cX11_hill 6 (some .int) 3 := ⟨mh_ok5 tw_3_41 tw_3_42 tw_3_43 tw_1_1 tw_3_44, np_yX11_hill, by decide⟩
theorem wv_RL_17_yX12_hill : mh_cV RL 17 yX12_hill cX12_hill 5 (some .int) 3 := ⟨mh_ok5 tw_5_208 tw_5_209 tw_5_210 tw_1_21 tw_5_211, np_yX12_hill, by decide⟩
theorem wv_RL_18_yX11_ofHill : mh_cV RL 18 yX11_ofHill cX11_ofHill 3 (some .int) 2 := ⟨mh_ok5 tw_3_60 tw_3_61 tw_3_62 tw_1_1 tw_3_63, np_yX11_ofHill, by decide⟩
theorem wv_RL_22_yX12_ofHill : mh_cV RL 22 yX12_ofHill cX12_ofHill 3 (some .int) 2 := ⟨mh_ok5 tw_6_0 tw_6_1 tw_6_2 tw_1_21 tw_6_3, np_yX12_ofHill, by decide⟩
theorem wv_RL_23_yX11_carrier : mh_cV RL 23 yX11_carrier cX11_carrier 5 (some .int) 3 := ⟨mh_ok5 tw_3_79 tw_3_80 tw_3_81 tw_1_1 tw_3_82, np_yX11_carrier, by decide⟩
theorem wv_RL_26_yX12_carrier : mh_cV RL 26 yX12_carrier cX12_carrier 5 (some .int) 3 := ⟨mh_ok5 tw_6_25 tw_6_26 tw_6_27 tw_1_21 tw_6_28, np_yX12_carrier, by decide⟩
theorem wv_RL_27_yX11_churn : mh_cV RL 27 yX11_churn cX11_churn 3 (some .int) 1 := ⟨mh_ok5 tw_3_86 tw_3_87 tw_3_88 tw_1_1 tw_3_89, np_yX11_churn, by decide⟩
theorem wv_RL_31_yX12_churn : mh_cV RL 31 yX12_churn cX12_churn 3 (some .int) 1 := ⟨mh_ok5 tw_6_39 tw_6_40 tw_6_41 tw_1_21 tw_6_42, np_yX12_churn, by decide⟩
theorem wv_RL_32_yX11_ofChurn : mh_cV RL 32 yX11_ofChurn cX11_ofChurn 3 (some .int) 2 := ⟨mh_ok5 tw_3_94 tw_3_95 tw_3_96 tw_1_1 tw_3_97, np_yX11_ofChurn, by decide⟩
theorem wv_RL_35_yX12_ofChurn : mh_cV RL 35 yX12_ofChurn cX12_ofChurn 3 (some .int) 2 := ⟨mh_ok5 tw_6_55 tw_6_56 tw_6_57 tw_1_21 tw_6_58, np_yX12_ofChurn, by decide⟩
theorem wv_RL_36_yX11_become : mh_cV RL 36 yX11_become cX11_become 5 (some .int) 2 := ⟨mh_ok5 tw_3_131 tw_3_132 tw_3_133 tw_1_1 tw_3_134, np_yX11_become, by decide⟩
theorem wv_RL_39_yX12_become_ : mh_cV RL 39 yX12_become_ cX12_become_ 4 (some .int) 2 := ⟨mh_ok5 tw_6_78 tw_6_79 tw_6_80 tw_1_21 tw_6_81, np_yX12_become_, by decide⟩
theorem wv_RL_40_yX11_as : mh_cV RL 40 yX11_as cX11_as 4 (some .int) 2 := ⟨mh_ok5 tw_3_135 tw_3_136 tw_3_137 tw_1_1 tw_3_138, np_yX11_as, by decide⟩
theorem wv_RL_43_yX12_as : mh_cV RL 43 yX12_as cX12_as 3 (some .int) 2 := ⟨mh_ok5 tw_6_82 tw_6_83 tw_6_84 tw_1_21 tw_6_85, np_yX12_as, by decide⟩
theorem wv_RL_44_yX11_go : mh_cV RL 44 yX11_go cX11_go 4 (some .int) 2 := ⟨mh_ok5 tw_3_150 tw_3_151 tw_3_152 tw_1_1 tw_3_153, np_yX11_go, by decide⟩
theorem wv_RL_47_yX12_go : mh_cV RL 47 yX12_go cX12_go 3 (some .int) 2 := ⟨mh_ok5 tw_6_93 tw_6_94 tw_6_95 tw_1_21 tw_6_96, np_yX12_go, by decide⟩
theorem wv_RL_48_yX11_brook : mh_cV RL 48 yX11_brook cX11_brook 3 (some .int) 1 := ⟨mh_ok5 tw_3_163 tw_3_164 tw_3_165 tw_1_1 tw_3_166, np_yX11_brook, by decide⟩
theorem wv_RL_51_yX12_brook : mh_cV RL 51 yX12_brook cX12_brook 3 (some .int) 1 := ⟨mh_ok5 tw_6_105 tw_6_106 tw_6_107 tw_1_21 tw_6_108, np_yX12_brook, by decide⟩
theorem wv_RL_52_yX11_rest : mh_cV RL 52 yX11_rest cX11_rest 3 (some .int) 1 := ⟨mh_ok5 tw_3_171 tw_3_172 tw_3_173 tw_1_1 tw_3_174, np_yX11_rest, by decide⟩
theorem wv_RL_55_yX12_rest : mh_cV RL 55 yX12_rest cX12_rest 2 (some .int) 1 := ⟨mh_ok5 tw_6_109 tw_6_110 tw_6_111 tw_1_21 tw_6_112, np_yX12_rest, by decide⟩
theorem wv_RL_56_yX11_giveUp : mh_cV RL 56 yX11_giveUp cX11_giveUp 4 (some .int) 1 := ⟨mh_ok5 tw_3_175 tw_3_176 tw_3_177 tw_1_1 tw_3_178, np_yX11_giveUp, by decide⟩
theorem wv_RL_59_yX12_giveUp : mh_cV RL 59 yX12_giveUp cX12_giveUp 3 (some .int) 1 := ⟨mh_ok5 tw_6_113 tw_6_114 tw_6_115 tw_1_21 tw_6_116, np_yX12_giveUp, by decide⟩
theorem wv_RL_60_yX11_refill : mh_cV RL 60 yX11_refill cX11_refill 3 (some .int) 1 := ⟨mh_ok5 tw_3_191 tw_3_192 tw_3_193 tw_1_1 tw_3_194, np_yX11_refill, by decide⟩
theorem wv_RL_63_yX12_refill : mh_cV RL 63 yX12_refill cX12_refill 3 (some .int) 1 := ⟨mh_ok5 tw_6_127 tw_6_128 tw_6_129 tw_1_21 tw_6_130, np_yX12_refill, by decide⟩
theorem wv_RL_66_yX11_feed : mh_cV RL 66 yX11_feed cX11_feed 5 (some .int) 2 := ⟨mh_ok5 tw_3_195 tw_3_196 tw_3_197 tw_1_1 tw_3_198, np_yX11_feed, by decide⟩
theorem wv_RL_70_yX12_feed : mh_cV RL 70 yX12_feed cX12_feed 5 (some .int) 2 := ⟨mh_ok5 tw_6_131 tw_6_132 tw_6_133 tw_1_21 tw_6_134, np_yX12_feed, by decide⟩
theorem wv_RL_71_yX11_text : mh_cV RL 71 yX11_text cX11_text 3 (some .int) 1 := ⟨mh_ok5 tw_3_199 tw_3_200 tw_3_201 tw_1_1 tw_3_202, np_yX11_text, by decide⟩
theorem wv_RL_74_yX12_text : mh_cV RL 74 yX12_text cX12_text 3 (some .int) 1 := ⟨mh_ok5 tw_6_136 tw_6_137 tw_6_138 tw_1_21 tw_6_139, np_yX12_text, by decide⟩
theorem wv_RL_75_yX11_law : mh_cV RL 75 yX11_law cX11_law 5 (some .int) 4 := ⟨mh_ok5 tw_3_208 tw_3_209 tw_3_210 tw_1_1 tw_3_211, np_yX11_law, by decide⟩
theorem wv_RL_79_yX12_law : mh_cV RL 79 yX12_law cX12_law 5 (some .int) 4 := ⟨mh_ok5 tw_6_194 tw_6_195 tw_6_196 tw_1_21 tw_6_197, np_yX12_law, by decide⟩
theorem wv_RL_80_yX11_quarters : mh_cV RL 80 yX11_quarters cX11_quarters 3 (some .int) 1 := ⟨mh_ok5 tw_3_213 tw_3_214 tw_3_215 tw_1_1 tw_3_216, np_yX11_quarters, by decide⟩
theorem wv_RL_83_yX12_quarters : mh_cV RL 83 yX12_quarters cX12_quarters 3 (some .int) 1 := ⟨mh_ok5 tw_6_198 tw_6_199 tw_6_200 tw_1_21 tw_6_201, np_yX12_quarters, by decide⟩
theorem wv_RL_84_yX11_days : mh_cV RL 84 yX11_days cX11_days 3 (some .int) 1 := ⟨mh_ok5 tw_4_50 tw_4_51 tw_4_52 tw_1_1 tw_4_53, np_yX11_days, by decide⟩
theorem wv_RL_87_yX12_days : mh_cV RL 87 yX12_days cX12_days 4 (some .int) 1 := ⟨mh_ok5 tw_6_233 tw_6_234 tw_6_235 tw_1_21 tw_6_236, np_yX12_days, by decide⟩
theorem wv_RL_88_yX11_thunder : mh_cV RL 88 yX11_thunder cX11_thunder 1 (some .int) 0 := ⟨mh_ok5 tw_4_63 tw_4_64 tw_4_65 tw_1_1 tw_4_66, np_yX11_thunder, by decide⟩
theorem wv_RL_92_yX12_thunder : mh_cV RL 92 yX12_thunder cX12_thunder 1 (some .int) 0 := ⟨mh_ok5 tw_7_6 tw_7_7 tw_7_8 tw_1_21 tw_7_9, np_yX12_thunder, by decide⟩
theorem wv_RL_93_yX11_then : mh_cV RL 93 yX11_then cX11_then 6 (some .int) 3 := ⟨mh_ok5 tw_4_67 tw_4_68 tw_4_69 tw_1_1 tw_4_70, np_yX11_then, by decide⟩
theorem wv_RL_96_yX12_then : mh_cV RL 96 yX12_then cX12_then 5 (some .int) 3 := ⟨mh_ok5 tw_7_10 tw_7_11 tw_7_12 tw_1_21 tw_7_13, np_yX12_then, by decide⟩
theorem wv_RL_97_yX11_relays : mh_cV RL 97 yX11_relays cX11_relays 6 (some .int) 3 := ⟨mh_ok5 tw_4_76 tw_4_77 tw_4_78 tw_1_1 tw_4_79, np_yX11_relays, by decide⟩
theorem wv_RL_100_yX12_relays : mh_cV RL 100 yX12_relays cX12_relays 5 (some .int) 3 := ⟨mh_ok5 tw_7_26 tw_7_27 tw_7_28 tw_1_21 tw_7_29, np_yX12_relays, by decide⟩
theorem wv_RL_101_yX11_turnsAt : mh_cV RL 101 yX11_turnsAt cX11_turnsAt 4 (some .int) 2 := ⟨mh_ok5 tw_4_135 tw_4_136 tw_4_137 tw_1_1 tw_4_138, np_yX11_turnsAt, by decide⟩
theorem wv_RL_104_yX12_turnsAt : mh_cV RL 104 yX12_turnsAt cX12_turnsAt 4 (some .int) 2 := ⟨mh_ok5 tw_7_64 tw_7_65 tw_7_66 tw_1_21 tw_7_67, np_yX12_turnsAt, by decide⟩
theorem wv_RL_105_yX11_bestGiven : mh_cV RL 105 yX11_bestGiven cX11_bestGiven 10 (some .int) 3 := ⟨mh_ok5 tw_4_144 tw_4_145 tw_4_146 tw_1_1 tw_4_147, np_yX11_bestGiven, by decide⟩
theorem wv_RL_108_yX12_bestGiven : mh_cV RL 108 yX12_bestGiven cX12_bestGiven 7 (some .int) 3 := ⟨mh_ok5 tw_7_76 tw_7_77 tw_7_78 tw_1_21 tw_7_79, np_yX12_bestGiven, by decide⟩
theorem wv_RL_109_yX11_cellar : mh_cV RL 109 yX11_cellar cX11_cellar 9 (some .int) 3 := ⟨mh_ok5 tw_4_154 tw_4_155 tw_4_156 tw_1_1 tw_4_157, np_yX11_cellar, by decide⟩
theorem wv_RL_112_yX12_cellar : mh_cV RL 112 yX12_cellar cX12_cellar 9 (some .int) 3 := ⟨mh_ok5 tw_7_84 tw_7_85 tw_7_86 tw_1_21 tw_7_87, np_yX12_cellar, by decide⟩
theorem wv_RL_113_yX11_odds : mh_cV RL 113 yX11_odds cX11_odds 9 (some .long) 3 := ⟨mh_ok5 tw_4_163 tw_4_164 tw_4_165 tw_1_1 tw_4_166, np_yX11_odds, by decide⟩
theorem wv_RL_117_yX12_odds : mh_cV RL 117 yX12_odds cX12_odds 14 (some .long) 3 := ⟨mh_ok5 tw_7_88 tw_7_89 tw_7_90 tw_1_21 tw_7_91, np_yX12_odds, by decide⟩
theorem wv_RL_118_yX11_byWhom : mh_cV RL 118 yX11_byWhom cX11_byWhom 9 (some .int) 3 := ⟨mh_ok5 tw_4_169 tw_4_170 tw_4_171 tw_1_1 tw_4_172, np_yX11_byWhom, by decide⟩
theorem wv_RL_121_yX12_byWhom : mh_cV RL 121 yX12_byWhom cX12_byWhom 6 (some .int) 3 := ⟨mh_ok5 tw_7_94 tw_7_95 tw_7_96 tw_1_21 tw_7_97, np_yX12_byWhom, by decide⟩
theorem wv_RL_122_yX11_seed : mh_cV RL 122 yX11_seed cX11_seed 3 (some .int) 1 := ⟨mh_ok5 tw_4_173 tw_4_174 tw_4_175 tw_1_1 tw_4_176, np_yX11_seed, by decide⟩
theorem wv_RL_125_yX12_seed : mh_cV RL 125 yX12_seed cX12_seed 3 (some .int) 1 := ⟨mh_ok5 tw_7_99 tw_7_100 tw_7_101 tw_1_21 tw_7_102, np_yX12_seed, by decide⟩
theorem wv_RL_126_yX11_voice : mh_cV RL 126 yX11_voice cX11_voice 5 (some .int) 3 := ⟨mh_ok5 tw_4_177 tw_4_178 tw_4_179 tw_1_1 tw_4_180, np_yX11_voice, by decide⟩
theorem wv_RL_129_yX12_voice : mh_cV RL 129 yX12_voice cX12_voice 4 (some .int) 3 := ⟨mh_ok5 tw_7_103 tw_7_104 tw_7_105 tw_1_21 tw_7_106, np_yX12_voice, by decide⟩
theorem wv_RL_130_yX11_trace : mh_cV RL 130 yX11_trace cX11_trace 2 (some .int) 1 := ⟨mh_ok5 tw_5_30 tw_5_31 tw_5_32 tw_1_1 tw_5_33, np_yX11_trace, by decide⟩
theorem wv_RL_133_yX12_trace : mh_cV RL 133 yX12_trace cX12_trace 2 (some .int) 1 := ⟨mh_ok5 tw_7_147 tw_7_148 tw_7_149 tw_1_21 tw_7_150, np_yX12_trace, by decide⟩
theorem wv_RL_134_yX11_sheet : mh_cV RL 134 yX11_sheet cX11_sheet 4 (some .int) 3 := ⟨mh_ok5 tw_5_34 tw_5_35 tw_5_36 tw_1_1 tw_5_37, np_yX11_sheet, by decide⟩
theorem wv_RL_137_yX12_sheet : mh_cV RL 137 yX12_sheet cX12_sheet 6 (some .int) 3 := ⟨mh_ok5 tw_7_151 tw_7_152 tw_7_153 tw_1_21 tw_7_154, np_yX12_sheet, by decide⟩
theorem wv_RL_138_yX11_put : mh_cV RL 138 yX11_put cX11_put 4 (some .int) 3 := ⟨mh_ok5 tw_5_42 tw_5_43 tw_5_44 tw_1_1 tw_5_45, np_yX11_put, by decide⟩
theorem wv_RL_141_yX12_put : mh_cV RL 141 yX12_put cX12_put 5 (some .int) 3 := ⟨mh_ok5 tw_7_158 tw_7_159 tw_7_160 tw_1_21 tw_7_161, np_yX12_put, by decide⟩
theorem wv_RL_142_yX11_move : mh_cV RL 142 yX11_move cX11_move 6 (some .int) 5 := ⟨mh_ok5 tw_5_46 tw_5_47 tw_5_48 tw_1_1 tw_5_49, np_yX11_move, by decide⟩
theorem wv_RL_146_yX12_move : mh_cV RL 146 yX12_move cX12_move 8 (some .int) 5 := ⟨mh_ok5 tw_7_166 tw_7_167 tw_7_168 tw_1_21 tw_7_169, np_yX12_move, by decide⟩
theorem wv_RL_147_yX11_heats : mh_cV RL 147 yX11_heats cX11_heats 5 (some .int) 1 := ⟨mh_ok5 tw_5_55 tw_5_56 tw_5_57 tw_1_1 tw_5_58, np_yX11_heats, by decide⟩
theorem wv_RL_150_yX12_heats : mh_cV RL 150 yX12_heats cX12_heats 4 (some .int) 1 := ⟨mh_ok5 tw_7_170 tw_7_171 tw_7_172 tw_1_21 tw_7_173, np_yX12_heats, by decide⟩
theorem wv_RL_151_yX11_judge : mh_cV RL 151 yX11_judge cX11_judge 4 (some .int) 1 := ⟨mh_ok5 tw_5_60 tw_5_61 tw_5_62 tw_1_1 tw_5_63, np_yX11_judge, by decide⟩
theorem wv_RL_154_yX12_judge : mh_cV RL 154 yX12_judge cX12_judge 4 (some .int) 1 := ⟨mh_ok5 tw_7_175 tw_7_176 tw_7_177 tw_1_21 tw_7_178, np_yX12_judge, by decide⟩
theorem wv_RL_155_yX11_image : mh_cV RL 155 yX11_image cX11_image 1 (some .int) 0 := ⟨mh_ok5 tw_5_64 tw_5_65 tw_5_66 tw_1_1 tw_5_67, np_yX11_image, by decide⟩
theorem wv_RL_158_yX12_image : mh_cV RL 158 yX12_image cX12_image 1 (some .int) 0 := ⟨mh_ok5 tw_7_179 tw_7_180 tw_7_181 tw_1_21 tw_7_182, np_yX12_image, by decide⟩
theorem wv_RL_159_yX11_restore : mh_cV RL 159 yX11_restore cX11_restore 1 (some .int) 0 := ⟨mh_ok5 tw_5_78 tw_5_79 tw_5_80 tw_1_1 tw_5_81, np_yX11_restore, by decide⟩
theorem wv_RL_162_yX12_restore : mh_cV RL 162 yX12_restore cX12_restore 1 (some .int) 0 := ⟨mh_ok5 tw_7_183 tw_7_184 tw_7_185 tw_1_21 tw_7_186, np_yX12_restore, by decide⟩
theorem wv_RL_163_yX11_tell : mh_cV RL 163 yX11_tell cX11_tell 2 (some .int) 1 := ⟨mh_ok5 tw_5_82 tw_5_83 tw_5_84 tw_1_1 tw_5_85, np_yX11_tell, by decide⟩
theorem wv_RL_166_yX12_tell : mh_cV RL 166 yX12_tell cX12_tell 2 (some .int) 1 := ⟨mh_ok5 tw_7_187 tw_7_188 tw_7_189 tw_1_21 tw_7_190, np_yX12_tell, by decide⟩
theorem wv_RL_167_yX11_check : mh_cV RL 167 yX11_check cX11_check 3 (some .int) 0 := ⟨mh_ok5 tw_5_86 tw_5_87 tw_5_88 tw_1_1 tw_5_89, np_yX11_check, by decide⟩
theorem wv_RL_170_yX12_check : mh_cV RL 170 yX12_check cX12_check 3 (some .int) 0 := ⟨mh_ok5 tw_7_191 tw_7_192 tw_7_193 tw_1_21 tw_7_194, np_yX12_check, by decide⟩
theorem wv_RL_171_yX11_count : mh_cV RL 171 yX11_count cX11_count 2 (some .int) 1 := ⟨mh_ok5 tw_5_94 tw_5_95 tw_5_96 tw_1_1 tw_5_97, np_yX11_count, by decide⟩
theorem wv_RL_174_yX12_count : mh_cV RL 174 yX12_count cX12_count 2 (some .int) 1 := ⟨mh_ok5 tw_7_199 tw_7_200 tw_7_201 tw_1_21 tw_7_202, np_yX12_count, by decide⟩
theorem wv_RL_175_yX11_told : mh_cV RL 175 yX11_told cX11_told 2 (some .int) 1 := ⟨mh_ok5 tw_5_106 tw_5_107 tw_5_108 tw_1_1 tw_5_109, np_yX11_told, by decide⟩
theorem wv_RL_178_yX12_told_ : mh_cV RL 178 yX12_told_ cX12_told_ 2 (some .int) 1 := ⟨mh_ok5 tw_7_211 tw_7_212 tw_7_213 tw_1_21 tw_7_214, np_yX12_told_, by decide⟩
theorem wi_RL_9 : mh_cI RL 9 yX11_init cX11_init 2 0 := ⟨mh_ok4 tw_1_24 tw_1_25 tw_1_1 tw_1_26, np_yX11_init, by decide, rfl⟩
theorem wi_RX11_9 : mh_cI RX11 9 yX3_init cX3_init 2 1 := ⟨mh_ok4 tw_1_33 tw_1_34 tw_1_2 tw_1_35, np_yX3_init, by decide, rfl⟩
theorem wi_RX11_14 : mh_cI RX11 14 yX2_init cX2_init 2 1 := ⟨mh_ok4 tw_1_45 tw_1_46 tw_1_3 tw_1_47, np_yX2_init, by decide, rfl⟩
theorem wi_RX2_1 : mh_cI RX2 1 yX3_init cX3_init 2 1 := ⟨mh_ok4 tw_1_48 tw_1_34 tw_1_2 tw_1_35, np_yX3_init, by decide, rfl⟩
theorem wi_RX11_17 : mh_cI RX11 17 yX4_init cX4_init 2 1 := ⟨mh_ok4 tw_1_53 tw_1_54 tw_1_4 tw_1_55, np_yX4_init, by decide, rfl⟩
theorem wi_RX4_1 : mh_cI RX4 1 yX3_init cX3_init 2 1 := ⟨mh_ok4 tw_1_56 tw_1_34 tw_1_2 tw_1_35, np_yX3_init, by decide, rfl⟩
theorem wi_RX11_20 : mh_cI RX11 20 yX1_init cX1_init 2 1 := ⟨mh_ok4 tw_1_61 tw_1_62 tw_1_5 tw_1_63, np_yX1_init, by decide, rfl⟩
theorem wi_RX1_1 : mh_cI RX1 1 yX3_init cX3_init 2 1 := ⟨mh_ok4 tw_1_64 tw_1_34 tw_1_2 tw_1_35, np_yX3_init, by decide, rfl⟩
theorem wi_RX11_23 : mh_cI RX11 23 yX7_init cX7_init 2 1 := ⟨mh_ok4 tw_1_69 tw_1_70 tw_1_6 tw_1_71, np_yX7_init, by decide, rfl⟩
theorem wi_RX7_1 : mh_cI RX7 1 yX2_init cX2_init 2 1 := ⟨mh_ok4 tw_1_72 tw_1_46 tw_1_3 tw_1_47, np_yX2_init, by decide, rfl⟩
theorem wi_RX11_26 : mh_cI RX11 26 yX8_init cX8_init 2 1 := ⟨mh_ok4 tw_1_77 tw_1_78 tw_1_7 tw_1_79, np_yX8_init, by decide, rfl⟩
theorem wi_RX8_1 : mh_cI RX8 1 yX4_init cX4_init 2 1 := ⟨mh_ok4 tw_1_80 tw_1_54 tw_1_4 tw_1_55, np_yX4_init, by decide, rfl⟩
theorem wi_RX11_29 : mh_cI RX11 29 yX5_init cX5_init 2 1 := ⟨mh_ok4 tw_1_85 tw_1_86 tw_1_8 tw_1_87, np_yX5_init, by decide, rfl⟩
theorem wi_RX5_1 : mh_cI RX5 1 yX1_init cX1_init 2 1 := ⟨mh_ok4 tw_1_88 tw_1_62 tw_1_5 tw_1_63, np_yX1_init, by decide, rfl⟩
theorem wi_RX11_69 : mh_cI RX11 69 yX10_init cX10_init 3 1 := ⟨mh_ok4 tw_1_140 tw_1_141 tw_1_10 tw_1_142, np_yX10_init, by decide, rfl⟩
theorem wi_RX10_43 : mh_cI RX10 43 yX9_init cX9_init 6 3 := ⟨mh_ok4 tw_1_149 tw_1_150 tw_1_11 tw_1_151, np_yX9_init, by decide, rfl⟩
theorem wi_RX10_70 : mh_cI RX10 70 yX0_init cX0_init 3 2 := ⟨mh_ok4 tw_2_115 tw_2_116 tw_1_20 tw_2_117, np_yX0_init, by decide, rfl⟩
theorem wi_RX11_79 : mh_cI RX11 79 yX0_init cX0_init 3 2 := ⟨mh_ok4 tw_3_6 tw_2_116 tw_1_20 tw_2_117, np_yX0_init, by decide, rfl⟩
theorem wi_RL_12 : mh_cI RL 12 yX12_init cX12_init 2 0 := ⟨mh_ok4 tw_5_112 tw_5_113 tw_1_21 tw_5_114, np_yX12_init, by decide, rfl⟩
theorem fw_RX3_9_1 : mh_fw RX3 9 1 0 .int := ⟨0, rfl, by decide, tw_1_37, rfl⟩
theorem qw_RX3_9_1 : mh_qw RX3 9 1 0 .int := ⟨0, rfl, by decide, tw_1_37, rfl, rfl, rfl⟩
theorem fw_RX3_9_2 : mh_fw RX3 9 2 0 .int := ⟨0, rfl, by decide, tw_1_37, rfl⟩
theorem qw_RX3_9_2 : mh_qw RX3 9 2 0 .int := ⟨0, rfl, by decide, tw_1_37, rfl, rfl, rfl⟩
theorem fw_RX3_9_3 : mh_fw RX3 9 3 0 .int := ⟨0, rfl, by decide, tw_1_37, rfl⟩
theorem qw_RX3_9_3 : mh_qw RX3 9 3 0 .int := ⟨0, rfl, by decide, tw_1_37, rfl, rfl, rfl⟩
theorem fw_RX3_9_4 : mh_fw RX3 9 4 0 .int := ⟨0, rfl, by decide, tw_1_37, rfl⟩
theorem qw_RX3_9_4 : mh_qw RX3 9 4 0 .int := ⟨0, rfl, by decide, tw_1_37, rfl, rfl, rfl⟩
theorem fw_RX3_9_5 : mh_fw RX3 9 5 0 .int := ⟨0, rfl, by decide, tw_1_37, rfl⟩
theorem qw_RX3_9_5 : mh_qw RX3 9 5 0 .int := ⟨0, rfl, by decide, tw_1_37, rfl, rfl, rfl⟩
theorem fw_RX3_9_7 : mh_fw RX3 9 7 0 .int := ⟨0, rfl, by decide, tw_1_37, rfl⟩
theorem qw_RX3_9_7 : mh_qw RX3 9 7 0 .int := ⟨0, rfl, by decide, tw_1_37, rfl, rfl, rfl⟩
theorem fw_RX3_9_8 : mh_fw RX3 9 8 0 .int := ⟨0, rfl, by decide, tw_1_37, rfl⟩
theorem qw_RX3_9_8 : mh_qw RX3 9 8 0 .int := ⟨0, rfl, by decide, tw_1_37, rfl, rfl, rfl⟩
theorem fw_RX11_145_1 : mh_fw RX11 145 1 0 .int := ⟨0, rfl, by decide, tw_1_38, rfl⟩
theorem fw_RX11_145_2 : mh_fw RX11 145 2 0 .int := ⟨0, rfl, by decide, tw_1_38, rfl⟩
theorem fw_RX11_145_3 : mh_fw RX11 145 3 0 .int := ⟨0, rfl, by decide, tw_1_38, rfl⟩
theorem fw_RX11_145_4 : mh_fw RX11 145 4 0 .int := ⟨0, rfl, by decide, tw_1_38, rfl⟩
theorem fw_RX11_145_5 : mh_fw RX11 145 5 0 .int := ⟨0, rfl, by decide, tw_1_38, rfl⟩
theorem fw_RX11_145_7 : mh_fw RX11 145 7 0 .int := ⟨0, rfl, by decide, tw_1_38, rfl⟩
theorem fw_RX11_145_8 : mh_fw RX11 145 8 0 .int := ⟨0, rfl, by decide, tw_1_38, rfl⟩
theorem fw_RX0_67_1 : mh_fw RX0 67 1 0 .int := ⟨0, rfl, by decide, tw_1_39, rfl⟩
theorem fw_RX0_67_2 : mh_fw RX0 67 2 0 .int := ⟨0, rfl, by decide, tw_1_39, rfl⟩
theorem fw_RX0_67_3 : mh_fw RX0 67 3 0 .int := ⟨0, rfl, by decide, tw_1_39, rfl⟩
theorem fw_RX0_67_4 : mh_fw RX0 67 4 0 .int := ⟨0, rfl, by decide, tw_1_39, rfl⟩
theorem fw_RX0_67_5 : mh_fw RX0 67 5 0 .int := ⟨0, rfl, by decide, tw_1_39, rfl⟩
theorem fw_RX0_67_7 : mh_fw RX0 67 7 0 .int := ⟨0, rfl, by decide, tw_1_39, rfl⟩
theorem fw_RX0_67_8 : mh_fw RX0 67 8 0 .int := ⟨0, rfl, by decide, tw_1_39, rfl⟩
theorem fw_RX6_12_6 : mh_fw RX6 12 6 0 (.array .int) := ⟨0, rfl, by decide, tw_1_100, rfl⟩
theorem qw_RX6_12_6 : mh_qw RX6 12 6 0 (.array .int) := ⟨0, rfl, by decide, tw_1_100, rfl, rfl, rfl⟩
theorem fw_RX6_16_6 : mh_fw RX6 16 6 1 (.array .int) := ⟨1, rfl, by decide, tw_1_101, rfl⟩
theorem qw_RX6_16_6 : mh_qw RX6 16 6 1 (.array .int) := ⟨1, rfl, by decide, tw_1_101, rfl, rfl, rfl⟩
theorem fw_RX6_19_6 : mh_fw RX6 19 6 2 (.array .boolean) := ⟨2, rfl, by decide, tw_1_102, rfl⟩
theorem qw_RX6_19_6 : mh_qw RX6 19 6 2 (.array .boolean) := ⟨2, rfl, by decide, tw_1_102, rfl, rfl, rfl⟩
theorem fw_RX6_23_6 : mh_fw RX6 23 6 3 (.array .int) := ⟨3, rfl, by decide, tw_1_103, rfl⟩
theorem qw_RX6_23_6 : mh_qw RX6 23 6 3 (.array .int) := ⟨3, rfl, by decide, tw_1_103, rfl, rfl, rfl⟩
theorem fw_RX6_26_6 : mh_fw RX6 26 6 4 (.array .int) := ⟨4, rfl, by decide, tw_1_104, rfl⟩
theorem qw_RX6_26_6 : mh_qw RX6 26 6 4 (.array .int) := ⟨4, rfl, by decide, tw_1_104, rfl, rfl, rfl⟩
theorem fw_RX6_38_6 : mh_fw RX6 38 6 5 .int := ⟨5, rfl, by decide, tw_1_105, rfl⟩
theorem pw_RX6_38_6 : mh_pw RX6 38 6 5 .int := ⟨5, rfl, by decide, tw_1_105, rfl, rfl⟩
theorem fw_RX6_73_6 : mh_fw RX6 73 6 6 .int := ⟨6, rfl, by decide, tw_1_106, rfl⟩
theorem pw_RX6_73_6 : mh_pw RX6 73 6 6 .int := ⟨6, rfl, by decide, tw_1_106, rfl, rfl⟩
theorem fw_RX6_47_6 : mh_fw RX6 47 6 7 .int := ⟨7, rfl, by decide, tw_1_107, rfl⟩
theorem pw_RX6_47_6 : mh_pw RX6 47 6 7 .int := ⟨7, rfl, by decide, tw_1_107, rfl, rfl⟩
theorem fw_RX6_53_6 : mh_fw RX6 53 6 8 .int := ⟨8, rfl, by decide, tw_1_108, rfl⟩
theorem pw_RX6_53_6 : mh_pw RX6 53 6 8 .int := ⟨8, rfl, by decide, tw_1_108, rfl, rfl⟩
theorem fw_RX6_57_6 : mh_fw RX6 57 6 9 .int := ⟨9, rfl, by decide, tw_1_109, rfl⟩
theorem pw_RX6_57_6 : mh_pw RX6 57 6 9 .int := ⟨9, rfl, by decide, tw_1_109, rfl, rfl⟩
theorem fw_RX6_71_6 : mh_fw RX6 71 6 10 .int := ⟨10, rfl, by decide, tw_1_110, rfl⟩
theorem pw_RX6_71_6 : mh_pw RX6 71 6 10 .int := ⟨10, rfl, by decide, tw_1_110, rfl, rfl⟩
theorem fw_RX9_21_9 : mh_fw RX9 21 9 0 (.object "java/lang/String") := ⟨0, rfl, by decide, tw_2_77, rfl⟩
theorem qw_RX9_21_9 : mh_qw RX9 21 9 0 (.object "java/lang/String") := ⟨0, rfl, by decide, tw_2_77, rfl, rfl, rfl⟩
theorem fw_RX9_25_9 : mh_fw RX9 25 9 1 .int := ⟨1, rfl, by decide, tw_2_78, rfl⟩
theorem qw_RX9_25_9 : mh_qw RX9 25 9 1 .int := ⟨1, rfl, by decide, tw_2_78, rfl, rfl, rfl⟩
theorem fw_RX9_9_9 : mh_fw RX9 9 9 2 (.array .int) := ⟨2, rfl, by decide, tw_2_79, rfl⟩
theorem qw_RX9_9_9 : mh_qw RX9 9 9 2 (.array .int) := ⟨2, rfl, by decide, tw_2_79, rfl, rfl, rfl⟩
theorem fw_RX9_49_9 : mh_fw RX9 49 9 3 .int := ⟨3, rfl, by decide, tw_2_80, rfl⟩
theorem pw_RX9_49_9 : mh_pw RX9 49 9 3 .int := ⟨3, rfl, by decide, tw_2_80, rfl, rfl⟩
theorem fw_RX9_15_9 : mh_fw RX9 15 9 4 (.array .int) := ⟨4, rfl, by decide, tw_2_81, rfl⟩
theorem qw_RX9_15_9 : mh_qw RX9 15 9 4 (.array .int) := ⟨4, rfl, by decide, tw_2_81, rfl, rfl, rfl⟩
theorem fw_RX9_70_9 : mh_fw RX9 70 9 5 .int := ⟨5, rfl, by decide, tw_2_82, rfl⟩
theorem pw_RX9_70_9 : mh_pw RX9 70 9 5 .int := ⟨5, rfl, by decide, tw_2_82, rfl, rfl⟩
theorem fw_RX9_18_9 : mh_fw RX9 18 9 6 (.array .int) := ⟨6, rfl, by decide, tw_2_83, rfl⟩
theorem qw_RX9_18_9 : mh_qw RX9 18 9 6 (.array .int) := ⟨6, rfl, by decide, tw_2_83, rfl, rfl, rfl⟩
theorem fw_RX9_51_9 : mh_fw RX9 51 9 7 (.array .byte) := ⟨7, rfl, by decide, tw_2_84, rfl⟩
theorem pw_RX9_51_9 : mh_pw RX9 51 9 7 (.array .byte) := ⟨7, rfl, by decide, tw_2_84, rfl, rfl⟩
theorem fw_RX9_64_9 : mh_fw RX9 64 9 8 .int := ⟨8, rfl, by decide, tw_2_85, rfl⟩
theorem pw_RX9_64_9 : mh_pw RX9 64 9 8 .int := ⟨8, rfl, by decide, tw_2_85, rfl, rfl⟩
theorem fw_RX9_67_9 : mh_fw RX9 67 9 9 .int := ⟨9, rfl, by decide, tw_2_86, rfl⟩
theorem pw_RX9_67_9 : mh_pw RX9 67 9 9 .int := ⟨9, rfl, by decide, tw_2_86, rfl, rfl⟩
theorem fw_RX0_9_0 : mh_fw RX0 9 0 0 .int := ⟨0, rfl, by decide, tw_2_119, rfl⟩
theorem qw_RX0_9_0 : mh_qw RX0 9 0 0 .int := ⟨0, rfl, by decide, tw_2_119, rfl, rfl, rfl⟩
theorem fw_RX5_24_0 : mh_fw RX5 24 0 0 .int := ⟨0, rfl, by decide, tw_2_120, rfl⟩
theorem fw_RX3_19_0 : mh_fw RX3 19 0 0 .int := ⟨0, rfl, by decide, tw_2_121, rfl⟩
theorem fw_RX0_15_0 : mh_fw RX0 15 0 1 (.object "MilkHills$Kind") := ⟨1, rfl, by decide, tw_2_122, rfl⟩
theorem pw_RX0_15_0 : mh_pw RX0 15 0 1 (.object "MilkHills$Kind") := ⟨1, rfl, by decide, tw_2_122, rfl, rfl⟩
theorem fw_RX6_58_0 : mh_fw RX6 58 0 1 (.object "MilkHills$Kind") := ⟨1, rfl, by decide, tw_2_123, rfl⟩
theorem pw_RX6_58_0 : mh_pw RX6 58 0 1 (.object "MilkHills$Kind") := ⟨1, rfl, by decide, tw_2_123, rfl, rfl⟩
theorem fw_RX2_21_0 : mh_fw RX2 21 0 1 (.object "MilkHills$Kind") := ⟨1, rfl, by decide, tw_2_124, rfl⟩
theorem pw_RX2_21_0 : mh_pw RX2 21 0 1 (.object "MilkHills$Kind") := ⟨1, rfl, by decide, tw_2_124, rfl, rfl⟩
theorem fw_RX8_30_0 : mh_fw RX8 30 0 1 (.object "MilkHills$Kind") := ⟨1, rfl, by decide, tw_2_125, rfl⟩
theorem pw_RX8_30_0 : mh_pw RX8 30 0 1 (.object "MilkHills$Kind") := ⟨1, rfl, by decide, tw_2_125, rfl, rfl⟩
theorem fw_RX5_30_0 : mh_fw RX5 30 0 1 (.object "MilkHills$Kind") := ⟨1, rfl, by decide, tw_2_126, rfl⟩
theorem pw_RX5_30_0 : mh_pw RX5 30 0 1 (.object "MilkHills$Kind") := ⟨1, rfl, by decide, tw_2_126, rfl, rfl⟩
theorem fw_RX11_129_0 : mh_fw RX11 129 0 1 (.object "MilkHills$Kind") := ⟨1, rfl, by decide, tw_2_127, rfl⟩
theorem pw_RX11_129_0 : mh_pw RX11 129 0 1 (.object "MilkHills$Kind") := ⟨1, rfl, by decide, tw_2_127, rfl, rfl⟩
theorem fw_RX3_22_0 : mh_fw RX3 22 0 1 (.object "MilkHills$Kind") := ⟨1, rfl, by decide, tw_2_128, rfl⟩
theorem pw_RX3_22_0 : mh_pw RX3 22 0 1 (.object "MilkHills$Kind") := ⟨1, rfl, by decide, tw_2_128, rfl, rfl⟩
theorem fw_RX10_156_0 : mh_fw RX10 156 0 1 (.object "MilkHills$Kind") := ⟨1, rfl, by decide, tw_2_129, rfl⟩
theorem pw_RX10_156_0 : mh_pw RX10 156 0 1 (.object "MilkHills$Kind") := ⟨1, rfl, by decide, tw_2_129, rfl, rfl⟩
theorem fw_RX6_62_0 : mh_fw RX6 62 0 2 .int := ⟨2, rfl, by decide, tw_2_130, rfl⟩
theorem pw_RX6_62_0 : mh_pw RX6 62 0 2 .int := ⟨2, rfl, by decide, tw_2_130, rfl, rfl⟩
theorem fw_RX0_41_0 : mh_fw RX0 41 0 2 .int := ⟨2, rfl, by decide, tw_2_131, rfl⟩
theorem pw_RX0_41_0 : mh_pw RX0 41 0 2 .int := ⟨2, rfl, by decide, tw_2_131, rfl, rfl⟩
theorem fw_RX11_133_0 : mh_fw RX11 133 0 2 .int := ⟨2, rfl, by decide, tw_2_132, rfl⟩
theorem pw_RX11_133_0 : mh_pw RX11 133 0 2 .int := ⟨2, rfl, by decide, tw_2_132, rfl, rfl⟩
theorem fw_RX10_116_0 : mh_fw RX10 116 0 2 .int := ⟨2, rfl, by decide, tw_2_133, rfl⟩
theorem pw_RX10_116_0 : mh_pw RX10 116 0 2 .int := ⟨2, rfl, by decide, tw_2_133, rfl, rfl⟩
theorem fw_RX3_30_0 : mh_fw RX3 30 0 2 .int := ⟨2, rfl, by decide, tw_2_134, rfl⟩
theorem pw_RX3_30_0 : mh_pw RX3 30 0 2 .int := ⟨2, rfl, by decide, tw_2_134, rfl, rfl⟩
theorem fw_RX0_22_0 : mh_fw RX0 22 0 3 .int := ⟨3, rfl, by decide, tw_2_135, rfl⟩
theorem pw_RX0_22_0 : mh_pw RX0 22 0 3 .int := ⟨3, rfl, by decide, tw_2_135, rfl, rfl⟩
theorem fw_RX6_42_0 : mh_fw RX6 42 0 3 .int := ⟨3, rfl, by decide, tw_2_136, rfl⟩
theorem pw_RX6_42_0 : mh_pw RX6 42 0 3 .int := ⟨3, rfl, by decide, tw_2_136, rfl, rfl⟩
theorem fw_RX10_119_0 : mh_fw RX10 119 0 3 .int := ⟨3, rfl, by decide, tw_2_137, rfl⟩
theorem pw_RX10_119_0 : mh_pw RX10 119 0 3 .int := ⟨3, rfl, by decide, tw_2_137, rfl, rfl⟩
theorem fw_RX11_169_0 : mh_fw RX11 169 0 3 .int := ⟨3, rfl, by decide, tw_2_138, rfl⟩
theorem pw_RX11_169_0 : mh_pw RX11 169 0 3 .int := ⟨3, rfl, by decide, tw_2_138, rfl, rfl⟩
theorem fw_RX0_25_0 : mh_fw RX0 25 0 4 .int := ⟨4, rfl, by decide, tw_2_139, rfl⟩
theorem pw_RX0_25_0 : mh_pw RX0 25 0 4 .int := ⟨4, rfl, by decide, tw_2_139, rfl, rfl⟩
theorem fw_RX10_133_0 : mh_fw RX10 133 0 4 .int := ⟨4, rfl, by decide, tw_2_140, rfl⟩
theorem pw_RX10_133_0 : mh_pw RX10 133 0 4 .int := ⟨4, rfl, by decide, tw_2_140, rfl, rfl⟩
theorem fw_RX11_162_0 : mh_fw RX11 162 0 4 .int := ⟨4, rfl, by decide, tw_2_141, rfl⟩
theorem pw_RX11_162_0 : mh_pw RX11 162 0 4 .int := ⟨4, rfl, by decide, tw_2_141, rfl, rfl⟩
theorem fw_RX0_28_0 : mh_fw RX0 28 0 5 .int := ⟨5, rfl, by decide, tw_2_142, rfl⟩
theorem pw_RX0_28_0 : mh_pw RX0 28 0 5 .int := ⟨5, rfl, by decide, tw_2_142, rfl, rfl⟩
theorem fw_RX11_159_0 : mh_fw RX11 159 0 5 .int := ⟨5, rfl, by decide, tw_2_143, rfl⟩
theorem pw_RX11_159_0 : mh_pw RX11 159 0 5 .int := ⟨5, rfl, by decide, tw_2_143, rfl, rfl⟩
theorem fw_RX10_181_0 : mh_fw RX10 181 0 5 .int := ⟨5, rfl, by decide, tw_2_144, rfl⟩
theorem pw_RX10_181_0 : mh_pw RX10 181 0 5 .int := ⟨5, rfl, by decide, tw_2_144, rfl, rfl⟩
theorem fw_RX0_19_0 : mh_fw RX0 19 0 6 .int := ⟨6, rfl, by decide, tw_2_145, rfl⟩
theorem pw_RX0_19_0 : mh_pw RX0 19 0 6 .int := ⟨6, rfl, by decide, tw_2_145, rfl, rfl⟩
theorem fw_RX10_168_0 : mh_fw RX10 168 0 6 .int := ⟨6, rfl, by decide, tw_2_146, rfl⟩
theorem pw_RX10_168_0 : mh_pw RX10 168 0 6 .int := ⟨6, rfl, by decide, tw_2_146, rfl, rfl⟩
theorem fw_RX0_31_0 : mh_fw RX0 31 0 7 .int := ⟨7, rfl, by decide, tw_2_147, rfl⟩
theorem pw_RX0_31_0 : mh_pw RX0 31 0 7 .int := ⟨7, rfl, by decide, tw_2_147, rfl, rfl⟩
theorem fw_RX6_50_0 : mh_fw RX6 50 0 7 .int := ⟨7, rfl, by decide, tw_2_148, rfl⟩
theorem pw_RX6_50_0 : mh_pw RX6 50 0 7 .int := ⟨7, rfl, by decide, tw_2_148, rfl, rfl⟩
theorem fw_RX10_113_0 : mh_fw RX10 113 0 7 .int := ⟨7, rfl, by decide, tw_2_149, rfl⟩
theorem pw_RX10_113_0 : mh_pw RX10 113 0 7 .int := ⟨7, rfl, by decide, tw_2_149, rfl, rfl⟩
theorem fw_RX11_256_0 : mh_fw RX11 256 0 7 .int := ⟨7, rfl, by decide, tw_2_150, rfl⟩
theorem pw_RX11_256_0 : mh_pw RX11 256 0 7 .int := ⟨7, rfl, by decide, tw_2_150, rfl, rfl⟩
theorem fw_RX0_34_0 : mh_fw RX0 34 0 8 .int := ⟨8, rfl, by decide, tw_2_151, rfl⟩
theorem pw_RX0_34_0 : mh_pw RX0 34 0 8 .int := ⟨8, rfl, by decide, tw_2_151, rfl, rfl⟩
theorem fw_RX6_54_0 : mh_fw RX6 54 0 8 .int := ⟨8, rfl, by decide, tw_2_152, rfl⟩
theorem pw_RX6_54_0 : mh_pw RX6 54 0 8 .int := ⟨8, rfl, by decide, tw_2_152, rfl, rfl⟩
theorem fw_RX0_37_0 : mh_fw RX0 37 0 9 .boolean := ⟨9, rfl, by decide, tw_2_153, rfl⟩
theorem pw_RX0_37_0 : mh_pw RX0 37 0 9 .boolean := ⟨9, rfl, by decide, tw_2_153, rfl, rfl⟩
theorem fw_RX11_165_0 : mh_fw RX11 165 0 9 .boolean := ⟨9, rfl, by decide, tw_2_154, rfl⟩
theorem pw_RX11_165_0 : mh_pw RX11 165 0 9 .boolean := ⟨9, rfl, by decide, tw_2_154, rfl, rfl⟩
theorem fw_RX10_137_0 : mh_fw RX10 137 0 9 .boolean := ⟨9, rfl, by decide, tw_2_155, rfl⟩
theorem pw_RX10_137_0 : mh_pw RX10 137 0 9 .boolean := ⟨9, rfl, by decide, tw_2_155, rfl, rfl⟩
theorem fw_RX10_9_10 : mh_fw RX10 9 10 0 (.array .int) := ⟨0, rfl, by decide, tw_2_177, rfl⟩
theorem qw_RX10_9_10 : mh_qw RX10 9 10 0 (.array .int) := ⟨0, rfl, by decide, tw_2_177, rfl, rfl, rfl⟩
theorem fw_RX11_96_10 : mh_fw RX11 96 10 0 (.array .int) := ⟨0, rfl, by decide, tw_2_178, rfl⟩
theorem fw_RX6_87_10 : mh_fw RX6 87 10 0 (.array .int) := ⟨0, rfl, by decide, tw_2_179, rfl⟩
theorem fw_RX10_15_10 : mh_fw RX10 15 10 1 (.array .int) := ⟨1, rfl, by decide, tw_2_180, rfl⟩
theorem qw_RX10_15_10 : mh_qw RX10 15 10 1 (.array .int) := ⟨1, rfl, by decide, tw_2_180, rfl, rfl, rfl⟩
theorem fw_RX11_99_10 : mh_fw RX11 99 10 1 (.array .int) := ⟨1, rfl, by decide, tw_2_181, rfl⟩
theorem fw_RX6_84_10 : mh_fw RX6 84 10 1 (.array .int) := ⟨1, rfl, by decide, tw_2_182, rfl⟩
theorem fw_RX10_18_10 : mh_fw RX10 18 10 2 (.array .int) := ⟨2, rfl, by decide, tw_2_183, rfl⟩
theorem qw_RX10_18_10 : mh_qw RX10 18 10 2 (.array .int) := ⟨2, rfl, by decide, tw_2_183, rfl, rfl, rfl⟩
theorem fw_RX11_102_10 : mh_fw RX11 102 10 2 (.array .int) := ⟨2, rfl, by decide, tw_2_184, rfl⟩
theorem fw_RX10_21_10 : mh_fw RX10 21 10 3 (.array .int) := ⟨3, rfl, by decide, tw_2_185, rfl⟩
theorem qw_RX10_21_10 : mh_qw RX10 21 10 3 (.array .int) := ⟨3, rfl, by decide, tw_2_185, rfl, rfl, rfl⟩
theorem fw_RX6_76_10 : mh_fw RX6 76 10 3 (.array .int) := ⟨3, rfl, by decide, tw_2_186, rfl⟩
theorem fw_RX11_117_10 : mh_fw RX11 117 10 3 (.array .int) := ⟨3, rfl, by decide, tw_2_187, rfl⟩
theorem fw_RX10_24_10 : mh_fw RX10 24 10 4 (.array .int) := ⟨4, rfl, by decide, tw_2_188, rfl⟩
theorem qw_RX10_24_10 : mh_qw RX10 24 10 4 (.array .int) := ⟨4, rfl, by decide, tw_2_188, rfl, rfl, rfl⟩
theorem fw_RX6_79_10 : mh_fw RX6 79 10 4 (.array .int) := ⟨4, rfl, by decide, tw_2_189, rfl⟩
theorem fw_RX11_120_10 : mh_fw RX11 120 10 4 (.array .int) := ⟨4, rfl, by decide, tw_2_190, rfl⟩
theorem fw_RX10_29_10 : mh_fw RX10 29 10 5 (.array (.object "MilkHills$Churn")) := ⟨5, rfl, by decide, tw_2_191, rfl⟩
theorem qw_RX10_29_10 : mh_qw RX10 29 10 5 (.array (.object "MilkHills$Churn")) := ⟨5, rfl, by decide, tw_2_191, rfl, rfl, rfl⟩
theorem fw_RX11_126_10 : mh_fw RX11 126 10 5 (.array (.object "MilkHills$Churn")) := ⟨5, rfl, by decide, tw_2_192, rfl⟩
theorem fw_RX10_83_10 : mh_fw RX10 83 10 6 .int := ⟨6, rfl, by decide, tw_2_193, rfl⟩
theorem pw_RX10_83_10 : mh_pw RX10 83 10 6 .int := ⟨6, rfl, by decide, tw_2_193, rfl, rfl⟩
theorem fw_RX11_123_10 : mh_fw RX11 123 10 6 .int := ⟨6, rfl, by decide, tw_2_194, rfl⟩
theorem pw_RX11_123_10 : mh_pw RX11 123 10 6 .int := ⟨6, rfl, by decide, tw_2_194, rfl, rfl⟩
theorem fw_RX10_86_10 : mh_fw RX10 86 10 7 .int := ⟨7, rfl, by decide, tw_2_195, rfl⟩
theorem pw_RX10_86_10 : mh_pw RX10 86 10 7 .int := ⟨7, rfl, by decide, tw_2_195, rfl, rfl⟩
theorem fw_RX11_105_10 : mh_fw RX11 105 10 7 .int := ⟨7, rfl, by decide, tw_2_196, rfl⟩
theorem pw_RX11_105_10 : mh_pw RX11 105 10 7 .int := ⟨7, rfl, by decide, tw_2_196, rfl, rfl⟩
theorem fw_RX6_128_10 : mh_fw RX6 128 10 7 .int := ⟨7, rfl, by decide, tw_2_197, rfl⟩
theorem pw_RX6_128_10 : mh_pw RX6 128 10 7 .int := ⟨7, rfl, by decide, tw_2_197, rfl, rfl⟩
theorem fw_RX10_89_10 : mh_fw RX10 89 10 8 .int := ⟨8, rfl, by decide, tw_2_198, rfl⟩
theorem pw_RX10_89_10 : mh_pw RX10 89 10 8 .int := ⟨8, rfl, by decide, tw_2_198, rfl, rfl⟩
theorem fw_RX11_206_10 : mh_fw RX11 206 10 8 .int := ⟨8, rfl, by decide, tw_2_199, rfl⟩
theorem pw_RX11_206_10 : mh_pw RX11 206 10 8 .int := ⟨8, rfl, by decide, tw_2_199, rfl, rfl⟩
theorem fw_RX10_33_10 : mh_fw RX10 33 10 9 (.array .byte) := ⟨9, rfl, by decide, tw_2_200, rfl⟩
theorem qw_RX10_33_10 : mh_qw RX10 33 10 9 (.array .byte) := ⟨9, rfl, by decide, tw_2_200, rfl, rfl, rfl⟩
theorem fw_RX11_185_10 : mh_fw RX11 185 10 9 (.array .byte) := ⟨9, rfl, by decide, tw_2_201, rfl⟩
theorem fw_RX10_92_10 : mh_fw RX10 92 10 10 .int := ⟨10, rfl, by decide, tw_2_202, rfl⟩
theorem pw_RX10_92_10 : mh_pw RX10 92 10 10 .int := ⟨10, rfl, by decide, tw_2_202, rfl, rfl⟩
theorem fw_RX11_182_10 : mh_fw RX11 182 10 10 .int := ⟨10, rfl, by decide, tw_2_203, rfl⟩
theorem pw_RX11_182_10 : mh_pw RX11 182 10 10 .int := ⟨10, rfl, by decide, tw_2_203, rfl, rfl⟩
theorem fw_RX10_46_10 : mh_fw RX10 46 10 11 (.object "MilkHills$Text") := ⟨11, rfl, by decide, tw_2_204, rfl⟩
theorem qw_RX10_46_10 : mh_qw RX10 46 10 11 (.object "MilkHills$Text") := ⟨11, rfl, by decide, tw_2_204, rfl, rfl, rfl⟩
theorem fw_RX6_124_10 : mh_fw RX6 124 10 11 (.object "MilkHills$Text") := ⟨11, rfl, by decide, tw_2_205, rfl⟩
theorem fw_RX10_54_10 : mh_fw RX10 54 10 12 (.object "MilkHills$Text") := ⟨12, rfl, by decide, tw_2_206, rfl⟩
theorem qw_RX10_54_10 : mh_qw RX10 54 10 12 (.object "MilkHills$Text") := ⟨12, rfl, by decide, tw_2_206, rfl, rfl, rfl⟩
theorem fw_RX10_57_10 : mh_fw RX10 57 10 13 (.array .int) := ⟨13, rfl, by decide, tw_2_207, rfl⟩
theorem qw_RX10_57_10 : mh_qw RX10 57 10 13 (.array .int) := ⟨13, rfl, by decide, tw_2_207, rfl, rfl, rfl⟩
theorem fw_RX11_309_10 : mh_fw RX11 309 10 13 (.array .int) := ⟨13, rfl, by decide, tw_2_208, rfl⟩
theorem fw_RX10_98_10 : mh_fw RX10 98 10 14 .int := ⟨14, rfl, by decide, tw_2_209, rfl⟩
theorem pw_RX10_98_10 : mh_pw RX10 98 10 14 .int := ⟨14, rfl, by decide, tw_2_209, rfl, rfl⟩
theorem fw_RX11_306_10 : mh_fw RX11 306 10 14 .int := ⟨14, rfl, by decide, tw_2_210, rfl⟩
theorem pw_RX11_306_10 : mh_pw RX11 306 10 14 .int := ⟨14, rfl, by decide, tw_2_210, rfl, rfl⟩
theorem fw_RX10_60_10 : mh_fw RX10 60 10 15 .int := ⟨15, rfl, by decide, tw_2_211, rfl⟩
theorem pw_RX10_60_10 : mh_pw RX10 60 10 15 .int := ⟨15, rfl, by decide, tw_2_211, rfl, rfl⟩
theorem fw_RX11_259_10 : mh_fw RX11 259 10 15 .int := ⟨15, rfl, by decide, tw_2_212, rfl⟩
theorem pw_RX11_259_10 : mh_pw RX11 259 10 15 .int := ⟨15, rfl, by decide, tw_2_212, rfl, rfl⟩
theorem fw_RX11_72_11 : mh_fw RX11 72 11 0 (.object "MilkHills$World") := ⟨0, rfl, by decide, tw_3_7, rfl⟩
theorem qw_RX11_72_11 : mh_qw RX11 72 11 0 (.object "MilkHills$World") := ⟨0, rfl, by decide, tw_3_7, rfl, rfl, rfl⟩
theorem fw_RX11_76_11 : mh_fw RX11 76 11 1 (.object "MilkHills$World") := ⟨1, rfl, by decide, tw_3_8, rfl⟩
theorem qw_RX11_76_11 : mh_qw RX11 76 11 1 (.object "MilkHills$World") := ⟨1, rfl, by decide, tw_3_8, rfl, rfl, rfl⟩
theorem fw_RX11_303_11 : mh_fw RX11 303 11 2 .int := ⟨2, rfl, by decide, tw_3_9, rfl⟩
theorem pw_RX11_303_11 : mh_pw RX11 303 11 2 .int := ⟨2, rfl, by decide, tw_3_9, rfl, rfl⟩
theorem fw_RX11_30_11 : mh_fw RX11 30 11 3 (.array (.object "MilkHills$Kind")) := ⟨3, rfl, by decide, tw_3_10, rfl⟩
theorem qw_RX11_30_11 : mh_qw RX11 30 11 3 (.array (.object "MilkHills$Kind")) := ⟨3, rfl, by decide, tw_3_10, rfl, rfl, rfl⟩
theorem fw_RX11_38_11 : mh_fw RX11 38 11 4 (.array (.object "MilkHills$Churn")) := ⟨4, rfl, by decide, tw_3_11, rfl⟩
theorem qw_RX11_38_11 : mh_qw RX11 38 11 4 (.array (.object "MilkHills$Churn")) := ⟨4, rfl, by decide, tw_3_11, rfl, rfl, rfl⟩
theorem fw_RX11_45_11 : mh_fw RX11 45 11 5 (.object "MilkHills$Relays") := ⟨5, rfl, by decide, tw_3_12, rfl⟩
theorem qw_RX11_45_11 : mh_qw RX11 45 11 5 (.object "MilkHills$Relays") := ⟨5, rfl, by decide, tw_3_12, rfl, rfl, rfl⟩
theorem fw_RX11_49_11 : mh_fw RX11 49 11 6 (.array .int) := ⟨6, rfl, by decide, tw_3_13, rfl⟩
theorem qw_RX11_49_11 : mh_qw RX11 49 11 6 (.array .int) := ⟨6, rfl, by decide, tw_3_13, rfl, rfl, rfl⟩
theorem fw_RX11_55_11 : mh_fw RX11 55 11 7 (.array (.array .int)) := ⟨7, rfl, by decide, tw_3_14, rfl⟩
theorem qw_RX11_55_11 : mh_qw RX11 55 11 7 (.array (.array .int)) := ⟨7, rfl, by decide, tw_3_14, rfl, rfl, rfl⟩
theorem fw_RX11_58_11 : mh_fw RX11 58 11 8 (.array .int) := ⟨8, rfl, by decide, tw_3_15, rfl⟩
theorem qw_RX11_58_11 : mh_qw RX11 58 11 8 (.array .int) := ⟨8, rfl, by decide, tw_3_15, rfl, rfl, rfl⟩
theorem fw_RX11_61_11 : mh_fw RX11 61 11 9 (.array .int) := ⟨9, rfl, by decide, tw_3_16, rfl⟩
theorem qw_RX11_61_11 : mh_qw RX11 61 11 9 (.array .int) := ⟨9, rfl, by decide, tw_3_16, rfl, rfl, rfl⟩
theorem fw_RX11_64_11 : mh_fw RX11 64 11 10 (.array .int) := ⟨10, rfl, by decide, tw_3_17, rfl⟩
theorem qw_RX11_64_11 : mh_qw RX11 64 11 10 (.array .int) := ⟨10, rfl, by decide, tw_3_17, rfl, rfl, rfl⟩
theorem fw_RX12_9_12 : mh_fw RX12 9 12 0 (.array .int) := ⟨0, rfl, by decide, tw_5_117, rfl⟩
theorem qw_RX12_9_12 : mh_qw RX12 9 12 0 (.array .int) := ⟨0, rfl, by decide, tw_5_117, rfl, rfl, rfl⟩
theorem fw_RX12_13_12 : mh_fw RX12 13 12 1 (.array .int) := ⟨1, rfl, by decide, tw_5_118, rfl⟩
theorem qw_RX12_13_12 : mh_qw RX12 13 12 1 (.array .int) := ⟨1, rfl, by decide, tw_5_118, rfl, rfl, rfl⟩
theorem fw_RX12_16_12 : mh_fw RX12 16 12 2 (.array .int) := ⟨2, rfl, by decide, tw_5_119, rfl⟩
theorem qw_RX12_16_12 : mh_qw RX12 16 12 2 (.array .int) := ⟨2, rfl, by decide, tw_5_119, rfl, rfl, rfl⟩
theorem fw_RX12_395_12 : mh_fw RX12 395 12 3 .boolean := ⟨3, rfl, by decide, tw_5_120, rfl⟩
theorem pw_RX12_395_12 : mh_pw RX12 395 12 3 .boolean := ⟨3, rfl, by decide, tw_5_120, rfl, rfl⟩
theorem fw_RX12_398_12 : mh_fw RX12 398 12 4 .int := ⟨4, rfl, by decide, tw_5_121, rfl⟩
theorem pw_RX12_398_12 : mh_pw RX12 398 12 4 .int := ⟨4, rfl, by decide, tw_5_121, rfl, rfl⟩
theorem fw_RX12_19_12 : mh_fw RX12 19 12 5 (.array .int) := ⟨5, rfl, by decide, tw_5_122, rfl⟩
theorem qw_RX12_19_12 : mh_qw RX12 19 12 5 (.array .int) := ⟨5, rfl, by decide, tw_5_122, rfl, rfl, rfl⟩
theorem fw_RX12_22_12 : mh_fw RX12 22 12 6 (.array .int) := ⟨6, rfl, by decide, tw_5_123, rfl⟩
theorem qw_RX12_22_12 : mh_qw RX12 22 12 6 (.array .int) := ⟨6, rfl, by decide, tw_5_123, rfl, rfl, rfl⟩
theorem fw_RX12_25_12 : mh_fw RX12 25 12 7 (.array .int) := ⟨7, rfl, by decide, tw_5_124, rfl⟩
theorem qw_RX12_25_12 : mh_qw RX12 25 12 7 (.array .int) := ⟨7, rfl, by decide, tw_5_124, rfl, rfl, rfl⟩
theorem fw_RX12_28_12 : mh_fw RX12 28 12 8 (.array .int) := ⟨8, rfl, by decide, tw_5_125, rfl⟩
theorem qw_RX12_28_12 : mh_qw RX12 28 12 8 (.array .int) := ⟨8, rfl, by decide, tw_5_125, rfl, rfl, rfl⟩
theorem fw_RX12_196_12 : mh_fw RX12 196 12 9 .int := ⟨9, rfl, by decide, tw_5_126, rfl⟩
theorem pw_RX12_196_12 : mh_pw RX12 196 12 9 .int := ⟨9, rfl, by decide, tw_5_126, rfl, rfl⟩
theorem fw_RX12_180_12 : mh_fw RX12 180 12 10 .int := ⟨10, rfl, by decide, tw_5_127, rfl⟩
theorem pw_RX12_180_12 : mh_pw RX12 180 12 10 .int := ⟨10, rfl, by decide, tw_5_127, rfl, rfl⟩
theorem fw_RX12_209_12 : mh_fw RX12 209 12 11 .int := ⟨11, rfl, by decide, tw_5_128, rfl⟩
theorem pw_RX12_209_12 : mh_pw RX12 209 12 11 .int := ⟨11, rfl, by decide, tw_5_128, rfl, rfl⟩
theorem fw_RX12_199_12 : mh_fw RX12 199 12 12 .int := ⟨12, rfl, by decide, tw_5_129, rfl⟩
theorem pw_RX12_199_12 : mh_pw RX12 199 12 12 .int := ⟨12, rfl, by decide, tw_5_129, rfl, rfl⟩
theorem fw_RX12_184_12 : mh_fw RX12 184 12 13 .boolean := ⟨13, rfl, by decide, tw_5_130, rfl⟩
theorem pw_RX12_184_12 : mh_pw RX12 184 12 13 .boolean := ⟨13, rfl, by decide, tw_5_130, rfl, rfl⟩
theorem fw_RX12_32_12 : mh_fw RX12 32 12 14 (.array .int) := ⟨14, rfl, by decide, tw_5_131, rfl⟩
theorem qw_RX12_32_12 : mh_qw RX12 32 12 14 (.array .int) := ⟨14, rfl, by decide, tw_5_131, rfl, rfl, rfl⟩
theorem fw_RX12_35_12 : mh_fw RX12 35 12 15 (.array .int) := ⟨15, rfl, by decide, tw_5_132, rfl⟩
theorem qw_RX12_35_12 : mh_qw RX12 35 12 15 (.array .int) := ⟨15, rfl, by decide, tw_5_132, rfl, rfl, rfl⟩
theorem fw_RX12_290_12 : mh_fw RX12 290 12 16 .int := ⟨16, rfl, by decide, tw_5_133, rfl⟩
theorem pw_RX12_290_12 : mh_pw RX12 290 12 16 .int := ⟨16, rfl, by decide, tw_5_133, rfl, rfl⟩
theorem fw_RX12_317_12 : mh_fw RX12 317 12 17 .int := ⟨17, rfl, by decide, tw_5_134, rfl⟩
theorem pw_RX12_317_12 : mh_pw RX12 317 12 17 .int := ⟨17, rfl, by decide, tw_5_134, rfl, rfl⟩
theorem fw_RX12_320_12 : mh_fw RX12 320 12 18 .int := ⟨18, rfl, by decide, tw_5_135, rfl⟩
theorem pw_RX12_320_12 : mh_pw RX12 320 12 18 .int := ⟨18, rfl, by decide, tw_5_135, rfl, rfl⟩
theorem fw_RX12_323_12 : mh_fw RX12 323 12 19 .int := ⟨19, rfl, by decide, tw_5_136, rfl⟩
theorem pw_RX12_323_12 : mh_pw RX12 323 12 19 .int := ⟨19, rfl, by decide, tw_5_136, rfl, rfl⟩
theorem fw_RX12_326_12 : mh_fw RX12 326 12 20 .int := ⟨20, rfl, by decide, tw_5_137, rfl⟩
theorem pw_RX12_326_12 : mh_pw RX12 326 12 20 .int := ⟨20, rfl, by decide, tw_5_137, rfl, rfl⟩
theorem fw_RX12_38_12 : mh_fw RX12 38 12 21 (.array .int) := ⟨21, rfl, by decide, tw_5_138, rfl⟩
theorem qw_RX12_38_12 : mh_qw RX12 38 12 21 (.array .int) := ⟨21, rfl, by decide, tw_5_138, rfl, rfl, rfl⟩
theorem fw_RX12_345_12 : mh_fw RX12 345 12 22 .int := ⟨22, rfl, by decide, tw_5_139, rfl⟩
theorem pw_RX12_345_12 : mh_pw RX12 345 12 22 .int := ⟨22, rfl, by decide, tw_5_139, rfl, rfl⟩
theorem fw_RX12_348_12 : mh_fw RX12 348 12 23 .int := ⟨23, rfl, by decide, tw_5_140, rfl⟩
theorem pw_RX12_348_12 : mh_pw RX12 348 12 23 .int := ⟨23, rfl, by decide, tw_5_140, rfl, rfl⟩
theorem fw_RX12_354_12 : mh_fw RX12 354 12 24 .int := ⟨24, rfl, by decide, tw_5_141, rfl⟩
theorem pw_RX12_354_12 : mh_pw RX12 354 12 24 .int := ⟨24, rfl, by decide, tw_5_141, rfl, rfl⟩
theorem fw_RX12_369_12 : mh_fw RX12 369 12 25 .int := ⟨25, rfl, by decide, tw_5_142, rfl⟩
theorem pw_RX12_369_12 : mh_pw RX12 369 12 25 .int := ⟨25, rfl, by decide, tw_5_142, rfl, rfl⟩
theorem fw_RX12_41_12 : mh_fw RX12 41 12 26 (.array .int) := ⟨26, rfl, by decide, tw_5_143, rfl⟩
theorem qw_RX12_41_12 : mh_qw RX12 41 12 26 (.array .int) := ⟨26, rfl, by decide, tw_5_143, rfl, rfl, rfl⟩
theorem fw_RX12_44_12 : mh_fw RX12 44 12 27 (.array .int) := ⟨27, rfl, by decide, tw_5_144, rfl⟩
theorem qw_RX12_44_12 : mh_qw RX12 44 12 27 (.array .int) := ⟨27, rfl, by decide, tw_5_144, rfl, rfl, rfl⟩
theorem fw_RX12_47_12 : mh_fw RX12 47 12 28 (.array .int) := ⟨28, rfl, by decide, tw_5_145, rfl⟩
theorem qw_RX12_47_12 : mh_qw RX12 47 12 28 (.array .int) := ⟨28, rfl, by decide, tw_5_145, rfl, rfl, rfl⟩
theorem fw_RX12_50_12 : mh_fw RX12 50 12 29 (.array .int) := ⟨29, rfl, by decide, tw_5_146, rfl⟩
theorem qw_RX12_50_12 : mh_qw RX12 50 12 29 (.array .int) := ⟨29, rfl, by decide, tw_5_146, rfl, rfl, rfl⟩
