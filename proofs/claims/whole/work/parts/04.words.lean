theorem w_1 : (Jvm.Cond.initialized "RunForms") ∈ jT := jT_in 1 (by decide +kernel) rfl
theorem w_2 : (Jvm.Cond.initialized "RunForms$Rules") ∈ jT := jT_in 2 (by decide +kernel) rfl
theorem w_3 : (Jvm.Cond.initialized "RunForms$Octets") ∈ jT := jT_in 3 (by decide +kernel) rfl
theorem w_4 : (Jvm.Cond.initialized "RunForms$Packer") ∈ jT := jT_in 4 (by decide +kernel) rfl
theorem w_5 : (Jvm.Cond.initialized "RunForms$Opener") ∈ jT := jT_in 5 (by decide +kernel) rfl
theorem w_6 : (Jvm.Cond.initialized "RunForms$Plain") ∈ jT := jT_in 6 (by decide +kernel) rfl
theorem w_7 : (Jvm.Cond.initialized "RunFormsModel") ∈ jT := jT_in 7 (by decide +kernel) rfl
theorem w_8 : (Jvm.Cond.initialized "java/lang/Math") ∈ jT := jT_in 8 (by decide +kernel) rfl
theorem w_9 : (Jvm.Cond.initialized "java/lang/System") ∈ jT := jT_in 9 (by decide +kernel) rfl
theorem w_10 : (Jvm.Cond.initialized "java/util/Arrays") ∈ jT := jT_in 10 (by decide +kernel) rfl
theorem w_31 : (Jvm.Cond.fieldLink "RunForms$Rules" (24 : Nat) "RunForms$Rules" "form" "I") ∈ jT := jT_in 31 (by decide +kernel) rfl
theorem w_32 : (Jvm.Cond.fieldLink "RunForms$Packer" (48 : Nat) "RunForms$Rules" "form" "I") ∈ jT := jT_in 32 (by decide +kernel) rfl
theorem w_33 : (Jvm.Cond.fieldLink "RunForms$Opener" (62 : Nat) "RunForms$Rules" "form" "I") ∈ jT := jT_in 33 (by decide +kernel) rfl
theorem w_34 : (Jvm.Cond.fieldLink "RunForms$Plain" (62 : Nat) "RunForms$Rules" "form" "I") ∈ jT := jT_in 34 (by decide +kernel) rfl
theorem w_35 : (Jvm.Cond.fieldLink "RunForms" (69 : Nat) "RunForms$Rules" "form" "I") ∈ jT := jT_in 35 (by decide +kernel) rfl
theorem w_36 : (Jvm.Cond.fieldLink "RunForms$Rules" (9 : Nat) "RunForms$Rules" "unitBytes" "I") ∈ jT := jT_in 36 (by decide +kernel) rfl
theorem w_37 : (Jvm.Cond.fieldLink "RunForms$Plain" (79 : Nat) "RunForms$Rules" "unitBytes" "I") ∈ jT := jT_in 37 (by decide +kernel) rfl
theorem w_38 : (Jvm.Cond.fieldLink "RunForms$Opener" (91 : Nat) "RunForms$Rules" "unitBytes" "I") ∈ jT := jT_in 38 (by decide +kernel) rfl
theorem w_39 : (Jvm.Cond.fieldLink "RunForms$Packer" (155 : Nat) "RunForms$Rules" "unitBytes" "I") ∈ jT := jT_in 39 (by decide +kernel) rfl
theorem w_40 : (Jvm.Cond.fieldLink "RunForms$Rules" (15 : Nat) "RunForms$Rules" "width" "I") ∈ jT := jT_in 40 (by decide +kernel) rfl
theorem w_41 : (Jvm.Cond.fieldLink "RunForms$Packer" (53 : Nat) "RunForms$Rules" "width" "I") ∈ jT := jT_in 41 (by decide +kernel) rfl
theorem w_42 : (Jvm.Cond.fieldLink "RunForms$Plain" (100 : Nat) "RunForms$Rules" "width" "I") ∈ jT := jT_in 42 (by decide +kernel) rfl
theorem w_43 : (Jvm.Cond.fieldLink "RunForms$Opener" (123 : Nat) "RunForms$Rules" "width" "I") ∈ jT := jT_in 43 (by decide +kernel) rfl
theorem w_44 : (Jvm.Cond.fieldLink "RunForms" (151 : Nat) "RunForms$Rules" "width" "I") ∈ jT := jT_in 44 (by decide +kernel) rfl
theorem w_45 : (Jvm.Cond.fieldLink "RunForms$Rules" (18 : Nat) "RunForms$Rules" "mark" "I") ∈ jT := jT_in 45 (by decide +kernel) rfl
theorem w_46 : (Jvm.Cond.fieldLink "RunForms$Opener" (81 : Nat) "RunForms$Rules" "mark" "I") ∈ jT := jT_in 46 (by decide +kernel) rfl
theorem w_47 : (Jvm.Cond.fieldLink "RunForms$Plain" (86 : Nat) "RunForms$Rules" "mark" "I") ∈ jT := jT_in 47 (by decide +kernel) rfl
theorem w_48 : (Jvm.Cond.fieldLink "RunForms$Packer" (161 : Nat) "RunForms$Rules" "mark" "I") ∈ jT := jT_in 48 (by decide +kernel) rfl
theorem w_49 : (Jvm.Cond.fieldLink "RunForms$Rules" (21 : Nat) "RunForms$Rules" "differences" "I") ∈ jT := jT_in 49 (by decide +kernel) rfl
theorem w_50 : (Jvm.Cond.fieldLink "RunForms$Opener" (54 : Nat) "RunForms$Rules" "differences" "I") ∈ jT := jT_in 50 (by decide +kernel) rfl
theorem w_51 : (Jvm.Cond.fieldLink "RunForms$Packer" (83 : Nat) "RunForms$Rules" "differences" "I") ∈ jT := jT_in 51 (by decide +kernel) rfl
theorem w_69 : (Jvm.Cond.fieldLink "RunForms$Octets" (15 : Nat) "RunForms$Octets" "held" "[B") ∈ jT := jT_in 69 (by decide +kernel) rfl
theorem w_70 : (Jvm.Cond.fieldLink "RunForms$Plain" (103 : Nat) "RunForms$Octets" "held" "[B") ∈ jT := jT_in 70 (by decide +kernel) rfl
theorem w_71 : (Jvm.Cond.fieldLink "RunForms$Octets" (9 : Nat) "RunForms$Octets" "count" "I") ∈ jT := jT_in 71 (by decide +kernel) rfl
theorem w_72 : (Jvm.Cond.fieldLink "RunForms$Packer" (40 : Nat) "RunForms$Octets" "count" "I") ∈ jT := jT_in 72 (by decide +kernel) rfl
theorem w_73 : (Jvm.Cond.fieldLink "RunForms$Opener" (74 : Nat) "RunForms$Octets" "count" "I") ∈ jT := jT_in 73 (by decide +kernel) rfl
theorem w_74 : (Jvm.Cond.fieldLink "RunForms$Plain" (76 : Nat) "RunForms$Octets" "count" "I") ∈ jT := jT_in 74 (by decide +kernel) rfl
theorem w_75 : (Jvm.Cond.fieldLink "RunForms" (61 : Nat) "RunForms$Octets" "count" "I") ∈ jT := jT_in 75 (by decide +kernel) rfl
theorem w_90 : (Jvm.Cond.fieldLink "RunForms$Packer" (36 : Nat) "RunForms$Packer" "rules" "LRunForms$Rules;") ∈ jT := jT_in 90 (by decide +kernel) rfl
theorem w_91 : (Jvm.Cond.fieldLink "RunForms$Packer" (14 : Nat) "RunForms$Packer" "packed" "LRunForms$Octets;") ∈ jT := jT_in 91 (by decide +kernel) rfl
theorem w_92 : (Jvm.Cond.fieldLink "RunForms" (84 : Nat) "RunForms$Packer" "packed" "LRunForms$Octets;") ∈ jT := jT_in 92 (by decide +kernel) rfl
theorem w_93 : (Jvm.Cond.fieldLink "RunForms$Packer" (20 : Nat) "RunForms$Packer" "units" "[I") ∈ jT := jT_in 93 (by decide +kernel) rfl
theorem w_94 : (Jvm.Cond.fieldLink "RunForms$Packer" (24 : Nat) "RunForms$Packer" "alike" "[I") ∈ jT := jT_in 94 (by decide +kernel) rfl
theorem w_95 : (Jvm.Cond.fieldLink "RunForms$Packer" (27 : Nat) "RunForms$Packer" "fewest" "[I") ∈ jT := jT_in 95 (by decide +kernel) rfl
theorem w_96 : (Jvm.Cond.fieldLink "RunForms$Packer" (30 : Nat) "RunForms$Packer" "sorts" "[I") ∈ jT := jT_in 96 (by decide +kernel) rfl
theorem w_97 : (Jvm.Cond.fieldLink "RunForms$Packer" (33 : Nat) "RunForms$Packer" "counts" "[I") ∈ jT := jT_in 97 (by decide +kernel) rfl
theorem w_98 : (Jvm.Cond.fieldLink "RunForms$Packer" (56 : Nat) "RunForms$Packer" "unitCount" "I") ∈ jT := jT_in 98 (by decide +kernel) rfl
theorem w_99 : (Jvm.Cond.fieldLink "RunForms$Packer" (89 : Nat) "RunForms$Packer" "end" "I") ∈ jT := jT_in 99 (by decide +kernel) rfl
theorem w_100 : (Jvm.Cond.fieldLink "RunForms$Packer" (105 : Nat) "RunForms$Packer" "rest" "I") ∈ jT := jT_in 100 (by decide +kernel) rfl
theorem w_131 : (Jvm.Cond.fieldLink "RunForms$Opener" (24 : Nat) "RunForms$Opener" "rules" "LRunForms$Rules;") ∈ jT := jT_in 131 (by decide +kernel) rfl
theorem w_132 : (Jvm.Cond.fieldLink "RunForms$Opener" (28 : Nat) "RunForms$Opener" "coded" "LRunForms$Octets;") ∈ jT := jT_in 132 (by decide +kernel) rfl
theorem w_133 : (Jvm.Cond.fieldLink "RunForms$Opener" (14 : Nat) "RunForms$Opener" "opened" "LRunForms$Octets;") ∈ jT := jT_in 133 (by decide +kernel) rfl
theorem w_134 : (Jvm.Cond.fieldLink "RunForms" (100 : Nat) "RunForms$Opener" "opened" "LRunForms$Octets;") ∈ jT := jT_in 134 (by decide +kernel) rfl
theorem w_135 : (Jvm.Cond.fieldLink "RunForms$Opener" (20 : Nat) "RunForms$Opener" "fault" "I") ∈ jT := jT_in 135 (by decide +kernel) rfl
theorem w_136 : (Jvm.Cond.fieldLink "RunForms" (94 : Nat) "RunForms$Opener" "fault" "I") ∈ jT := jT_in 136 (by decide +kernel) rfl
theorem w_137 : (Jvm.Cond.fieldLink "RunForms$Opener" (47 : Nat) "RunForms$Opener" "place" "I") ∈ jT := jT_in 137 (by decide +kernel) rfl
theorem w_138 : (Jvm.Cond.fieldLink "RunForms" (97 : Nat) "RunForms$Opener" "place" "I") ∈ jT := jT_in 138 (by decide +kernel) rfl
theorem w_139 : (Jvm.Cond.fieldLink "RunForms$Opener" (34 : Nat) "RunForms$Opener" "next" "I") ∈ jT := jT_in 139 (by decide +kernel) rfl
theorem w_140 : (Jvm.Cond.fieldLink "RunForms$Opener" (37 : Nat) "RunForms$Opener" "ended" "Z") ∈ jT := jT_in 140 (by decide +kernel) rfl
theorem w_141 : (Jvm.Cond.fieldLink "RunForms$Opener" (41 : Nat) "RunForms$Opener" "row" "I") ∈ jT := jT_in 141 (by decide +kernel) rfl
theorem w_142 : (Jvm.Cond.fieldLink "RunForms$Opener" (44 : Nat) "RunForms$Opener" "column" "I") ∈ jT := jT_in 142 (by decide +kernel) rfl
theorem w_168 : (Jvm.Cond.fieldLink "RunForms$Plain" (22 : Nat) "RunForms$Plain" "rules" "LRunForms$Rules;") ∈ jT := jT_in 168 (by decide +kernel) rfl
theorem w_169 : (Jvm.Cond.fieldLink "RunForms$Plain" (26 : Nat) "RunForms$Plain" "coded" "LRunForms$Octets;") ∈ jT := jT_in 169 (by decide +kernel) rfl
theorem w_170 : (Jvm.Cond.fieldLink "RunForms$Plain" (9 : Nat) "RunForms$Plain" "held" "[B") ∈ jT := jT_in 170 (by decide +kernel) rfl
theorem w_172 : (Jvm.Cond.fieldLink "RunForms$Plain" (15 : Nat) "RunForms$Plain" "count" "I") ∈ jT := jT_in 172 (by decide +kernel) rfl
theorem w_173 : (Jvm.Cond.fieldLink "RunForms" (106 : Nat) "RunForms$Plain" "count" "I") ∈ jT := jT_in 173 (by decide +kernel) rfl
theorem w_174 : (Jvm.Cond.fieldLink "RunForms$Plain" (19 : Nat) "RunForms$Plain" "reach" "I") ∈ jT := jT_in 174 (by decide +kernel) rfl
theorem w_175 : (Jvm.Cond.fieldLink "RunForms" (142 : Nat) "RunForms$Plain" "reach" "I") ∈ jT := jT_in 175 (by decide +kernel) rfl
theorem w_176 : (Jvm.Cond.fieldLink "RunForms$Plain" (45 : Nat) "RunForms$Plain" "next" "I") ∈ jT := jT_in 176 (by decide +kernel) rfl
theorem w_177 : (Jvm.Cond.fieldLink "RunForms$Plain" (48 : Nat) "RunForms$Plain" "ended" "Z") ∈ jT := jT_in 177 (by decide +kernel) rfl
theorem w_178 : (Jvm.Cond.fieldLink "RunForms$Plain" (52 : Nat) "RunForms$Plain" "row" "I") ∈ jT := jT_in 178 (by decide +kernel) rfl
theorem w_179 : (Jvm.Cond.fieldLink "RunForms$Plain" (55 : Nat) "RunForms$Plain" "column" "I") ∈ jT := jT_in 179 (by decide +kernel) rfl
theorem w_199 : (Jvm.Cond.fieldLink "RunForms" (14 : Nat) "RunForms" "rules" "LRunForms$Rules;") ∈ jT := jT_in 199 (by decide +kernel) rfl
theorem w_200 : (Jvm.Cond.fieldLink "RunForms" (21 : Nat) "RunForms" "source" "LRunForms$Octets;") ∈ jT := jT_in 200 (by decide +kernel) rfl
theorem w_201 : (Jvm.Cond.fieldLink "RunForms" (25 : Nat) "RunForms" "coded" "LRunForms$Octets;") ∈ jT := jT_in 201 (by decide +kernel) rfl
theorem w_202 : (Jvm.Cond.fieldLink "RunForms" (33 : Nat) "RunForms" "packer" "LRunForms$Packer;") ∈ jT := jT_in 202 (by decide +kernel) rfl
theorem w_203 : (Jvm.Cond.fieldLink "RunForms" (42 : Nat) "RunForms" "opener" "LRunForms$Opener;") ∈ jT := jT_in 203 (by decide +kernel) rfl
theorem w_204 : (Jvm.Cond.fieldLink "RunForms" (49 : Nat) "RunForms" "copied" "LRunForms$Plain;") ∈ jT := jT_in 204 (by decide +kernel) rfl
theorem w_221 : (Jvm.Cond.code ({ cls := "RunForms", name := "octet", desc := "(I)I" } : Jvm.MethodName) prog_1_method_2_code (2 : Nat) (Option.some Jvm.ClassFile.FieldType.int)) ∈ jT := jT_in 221 (by decide +kernel) rfl
theorem w_222 : (Jvm.Cond.methodLink "RunForms" (53 : Nat) ({ cls := "RunForms", name := "append", desc := "(LRunForms$Octets;II)I" } : Jvm.MethodName)) ∈ jT := jT_in 222 (by decide +kernel) rfl
theorem w_224 : (Jvm.Cond.instanceMethod ({ cls := "RunForms", name := "append", desc := "(LRunForms$Octets;II)I" } : Jvm.MethodName)) ∈ jT := jT_in 224 (by decide +kernel) rfl
theorem w_225 : (Jvm.Cond.code ({ cls := "RunForms", name := "append", desc := "(LRunForms$Octets;II)I" } : Jvm.MethodName) prog_1_method_17_code (5 : Nat) (Option.some Jvm.ClassFile.FieldType.int)) ∈ jT := jT_in 225 (by decide +kernel) rfl
theorem w_226 : (Jvm.Cond.methodLink "RunForms" (145 : Nat) ({ cls := "RunForms$Octets", name := "hasRoom", desc := "(I)Z" } : Jvm.MethodName)) ∈ jT := jT_in 226 (by decide +kernel) rfl
theorem w_227 : (Jvm.Cond.instanceMethod ({ cls := "RunForms$Octets", name := "hasRoom", desc := "(I)Z" } : Jvm.MethodName)) ∈ jT := jT_in 227 (by decide +kernel) rfl
theorem w_228 : (Jvm.Cond.selects "RunForms$Octets" ({ cls := "RunForms$Octets", name := "hasRoom", desc := "(I)Z" } : Jvm.MethodName) ({ cls := "RunForms$Octets", name := "hasRoom", desc := "(I)Z" } : Jvm.MethodName)) ∈ jT := jT_in 228 (by decide +kernel) rfl
theorem w_229 : (Jvm.Cond.code ({ cls := "RunForms$Octets", name := "hasRoom", desc := "(I)Z" } : Jvm.MethodName) prog_2_method_2_code (2 : Nat) (Option.some Jvm.ClassFile.FieldType.boolean)) ∈ jT := jT_in 229 (by decide +kernel) rfl
theorem w_230 : (Jvm.Cond.methodLink "RunForms" (148 : Nat) ({ cls := "RunForms$Octets", name := "add", desc := "(I)V" } : Jvm.MethodName)) ∈ jT := jT_in 230 (by decide +kernel) rfl
theorem w_231 : (Jvm.Cond.instanceMethod ({ cls := "RunForms$Octets", name := "add", desc := "(I)V" } : Jvm.MethodName)) ∈ jT := jT_in 231 (by decide +kernel) rfl
theorem w_232 : (Jvm.Cond.selects "RunForms$Octets" ({ cls := "RunForms$Octets", name := "add", desc := "(I)V" } : Jvm.MethodName) ({ cls := "RunForms$Octets", name := "add", desc := "(I)V" } : Jvm.MethodName)) ∈ jT := jT_in 232 (by decide +kernel) rfl
theorem w_233 : (Jvm.Cond.code ({ cls := "RunForms$Octets", name := "add", desc := "(I)V" } : Jvm.MethodName) prog_2_method_3_code (2 : Nat) (Option.none : Option Jvm.ClassFile.FieldType)) ∈ jT := jT_in 233 (by decide +kernel) rfl
theorem w_237 : (Jvm.Cond.code ({ cls := "RunForms", name := "repeat", desc := "(II)I" } : Jvm.MethodName) prog_1_method_3_code (3 : Nat) (Option.some Jvm.ClassFile.FieldType.int)) ∈ jT := jT_in 237 (by decide +kernel) rfl
theorem w_241 : (Jvm.Cond.code ({ cls := "RunForms", name := "code", desc := "(I)I" } : Jvm.MethodName) prog_1_method_4_code (2 : Nat) (Option.some Jvm.ClassFile.FieldType.int)) ∈ jT := jT_in 241 (by decide +kernel) rfl
theorem w_245 : (Jvm.Cond.code ({ cls := "RunForms", name := "cut", desc := "(II)I" } : Jvm.MethodName) prog_1_method_5_code (5 : Nat) (Option.some Jvm.ClassFile.FieldType.int)) ∈ jT := jT_in 245 (by decide +kernel) rfl
theorem w_246 : (Jvm.Cond.methodLink "RunForms" (57 : Nat) ({ cls := "RunForms", name := "rowOf", desc := "(I)LRunForms$Octets;" } : Jvm.MethodName)) ∈ jT := jT_in 246 (by decide +kernel) rfl
theorem w_248 : (Jvm.Cond.instanceMethod ({ cls := "RunForms", name := "rowOf", desc := "(I)LRunForms$Octets;" } : Jvm.MethodName)) ∈ jT := jT_in 248 (by decide +kernel) rfl
theorem w_249 : (Jvm.Cond.code ({ cls := "RunForms", name := "rowOf", desc := "(I)LRunForms$Octets;" } : Jvm.MethodName) prog_1_method_19_code (2 : Nat) (Option.some (Jvm.ClassFile.FieldType.object "RunForms$Octets"))) ∈ jT := jT_in 249 (by decide +kernel) rfl
theorem w_253 : (Jvm.Cond.code ({ cls := "RunForms", name := "rule", desc := "(II)I" } : Jvm.MethodName) prog_1_method_6_code (3 : Nat) (Option.some Jvm.ClassFile.FieldType.int)) ∈ jT := jT_in 253 (by decide +kernel) rfl
theorem w_254 : (Jvm.Cond.methodLink "RunForms" (65 : Nat) ({ cls := "RunForms$Rules", name := "allow", desc := "(II)Z" } : Jvm.MethodName)) ∈ jT := jT_in 254 (by decide +kernel) rfl
theorem w_255 : (Jvm.Cond.instanceMethod ({ cls := "RunForms$Rules", name := "allow", desc := "(II)Z" } : Jvm.MethodName)) ∈ jT := jT_in 255 (by decide +kernel) rfl
theorem w_256 : (Jvm.Cond.selects "RunForms$Rules" ({ cls := "RunForms$Rules", name := "allow", desc := "(II)Z" } : Jvm.MethodName) ({ cls := "RunForms$Rules", name := "allow", desc := "(II)Z" } : Jvm.MethodName)) ∈ jT := jT_in 256 (by decide +kernel) rfl
theorem w_257 : (Jvm.Cond.code ({ cls := "RunForms$Rules", name := "allow", desc := "(II)Z" } : Jvm.MethodName) prog_6_method_2_code (3 : Nat) (Option.some Jvm.ClassFile.FieldType.boolean)) ∈ jT := jT_in 257 (by decide +kernel) rfl
theorem w_258 : (Jvm.Cond.methodLink "RunForms" (72 : Nat) ({ cls := "RunForms$Rules", name := "change", desc := "(II)I" } : Jvm.MethodName)) ∈ jT := jT_in 258 (by decide +kernel) rfl
theorem w_259 : (Jvm.Cond.instanceMethod ({ cls := "RunForms$Rules", name := "change", desc := "(II)I" } : Jvm.MethodName)) ∈ jT := jT_in 259 (by decide +kernel) rfl
theorem w_260 : (Jvm.Cond.selects "RunForms$Rules" ({ cls := "RunForms$Rules", name := "change", desc := "(II)I" } : Jvm.MethodName) ({ cls := "RunForms$Rules", name := "change", desc := "(II)I" } : Jvm.MethodName)) ∈ jT := jT_in 260 (by decide +kernel) rfl
theorem w_261 : (Jvm.Cond.code ({ cls := "RunForms$Rules", name := "change", desc := "(II)I" } : Jvm.MethodName) prog_6_method_3_code (4 : Nat) (Option.some Jvm.ClassFile.FieldType.int)) ∈ jT := jT_in 261 (by decide +kernel) rfl
theorem w_265 : (Jvm.Cond.code ({ cls := "RunForms", name := "pack", desc := "(I)I" } : Jvm.MethodName) prog_1_method_7_code (3 : Nat) (Option.some Jvm.ClassFile.FieldType.int)) ∈ jT := jT_in 265 (by decide +kernel) rfl
theorem w_266 : (Jvm.Cond.methodLink "RunForms" (76 : Nat) ({ cls := "RunForms", name := "packRefusal", desc := "(I)I" } : Jvm.MethodName)) ∈ jT := jT_in 266 (by decide +kernel) rfl
theorem w_268 : (Jvm.Cond.instanceMethod ({ cls := "RunForms", name := "packRefusal", desc := "(I)I" } : Jvm.MethodName)) ∈ jT := jT_in 268 (by decide +kernel) rfl
theorem w_269 : (Jvm.Cond.code ({ cls := "RunForms", name := "packRefusal", desc := "(I)I" } : Jvm.MethodName) prog_1_method_18_code (2 : Nat) (Option.some Jvm.ClassFile.FieldType.int)) ∈ jT := jT_in 269 (by decide +kernel) rfl
theorem w_270 : (Jvm.Cond.methodLink "RunForms" (131 : Nat) ({ cls := "RunForms$Rules", name := "isWhole", desc := "(I)Z" } : Jvm.MethodName)) ∈ jT := jT_in 270 (by decide +kernel) rfl
theorem w_271 : (Jvm.Cond.instanceMethod ({ cls := "RunForms$Rules", name := "isWhole", desc := "(I)Z" } : Jvm.MethodName)) ∈ jT := jT_in 271 (by decide +kernel) rfl
theorem w_272 : (Jvm.Cond.selects "RunForms$Rules" ({ cls := "RunForms$Rules", name := "isWhole", desc := "(I)Z" } : Jvm.MethodName) ({ cls := "RunForms$Rules", name := "isWhole", desc := "(I)Z" } : Jvm.MethodName)) ∈ jT := jT_in 272 (by decide +kernel) rfl
theorem w_273 : (Jvm.Cond.code ({ cls := "RunForms$Rules", name := "isWhole", desc := "(I)Z" } : Jvm.MethodName) prog_6_method_4_code (3 : Nat) (Option.some Jvm.ClassFile.FieldType.boolean)) ∈ jT := jT_in 273 (by decide +kernel) rfl
theorem w_274 : (Jvm.Cond.methodLink "RunForms" (80 : Nat) ({ cls := "RunForms$Packer", name := "make", desc := "(LRunForms$Octets;I)I" } : Jvm.MethodName)) ∈ jT := jT_in 274 (by decide +kernel) rfl
theorem w_275 : (Jvm.Cond.instanceMethod ({ cls := "RunForms$Packer", name := "make", desc := "(LRunForms$Octets;I)I" } : Jvm.MethodName)) ∈ jT := jT_in 275 (by decide +kernel) rfl
theorem w_276 : (Jvm.Cond.selects "RunForms$Packer" ({ cls := "RunForms$Packer", name := "make", desc := "(LRunForms$Octets;I)I" } : Jvm.MethodName) ({ cls := "RunForms$Packer", name := "make", desc := "(LRunForms$Octets;I)I" } : Jvm.MethodName)) ∈ jT := jT_in 276 (by decide +kernel) rfl
theorem w_277 : (Jvm.Cond.code ({ cls := "RunForms$Packer", name := "make", desc := "(LRunForms$Octets;I)I" } : Jvm.MethodName) prog_4_method_2_code (5 : Nat) (Option.some Jvm.ClassFile.FieldType.int)) ∈ jT := jT_in 277 (by decide +kernel) rfl
theorem w_278 : (Jvm.Cond.methodLink "RunForms$Packer" (44 : Nat) ({ cls := "RunForms$Packer", name := "readUnits", desc := "(LRunForms$Octets;)V" } : Jvm.MethodName)) ∈ jT := jT_in 278 (by decide +kernel) rfl
theorem w_279 : (Jvm.Cond.instanceMethod ({ cls := "RunForms$Packer", name := "readUnits", desc := "(LRunForms$Octets;)V" } : Jvm.MethodName)) ∈ jT := jT_in 279 (by decide +kernel) rfl
theorem w_280 : (Jvm.Cond.selects "RunForms$Packer" ({ cls := "RunForms$Packer", name := "readUnits", desc := "(LRunForms$Octets;)V" } : Jvm.MethodName) ({ cls := "RunForms$Packer", name := "readUnits", desc := "(LRunForms$Octets;)V" } : Jvm.MethodName)) ∈ jT := jT_in 280 (by decide +kernel) rfl
theorem w_281 : (Jvm.Cond.code ({ cls := "RunForms$Packer", name := "readUnits", desc := "(LRunForms$Octets;)V" } : Jvm.MethodName) prog_4_method_3_code (5 : Nat) (Option.none : Option Jvm.ClassFile.FieldType)) ∈ jT := jT_in 281 (by decide +kernel) rfl
theorem w_282 : (Jvm.Cond.methodLink "RunForms$Packer" (75 : Nat) ({ cls := "RunForms$Rules", name := "unitsIn", desc := "(I)I" } : Jvm.MethodName)) ∈ jT := jT_in 282 (by decide +kernel) rfl
theorem w_283 : (Jvm.Cond.instanceMethod ({ cls := "RunForms$Rules", name := "unitsIn", desc := "(I)I" } : Jvm.MethodName)) ∈ jT := jT_in 283 (by decide +kernel) rfl
theorem w_284 : (Jvm.Cond.selects "RunForms$Rules" ({ cls := "RunForms$Rules", name := "unitsIn", desc := "(I)I" } : Jvm.MethodName) ({ cls := "RunForms$Rules", name := "unitsIn", desc := "(I)I" } : Jvm.MethodName)) ∈ jT := jT_in 284 (by decide +kernel) rfl
theorem w_285 : (Jvm.Cond.code ({ cls := "RunForms$Rules", name := "unitsIn", desc := "(I)I" } : Jvm.MethodName) prog_6_method_5_code (2 : Nat) (Option.some Jvm.ClassFile.FieldType.int)) ∈ jT := jT_in 285 (by decide +kernel) rfl
theorem w_286 : (Jvm.Cond.methodLink "RunForms$Packer" (79 : Nat) ({ cls := "RunForms$Rules", name := "numberAt", desc := "(LRunForms$Octets;I)I" } : Jvm.MethodName)) ∈ jT := jT_in 286 (by decide +kernel) rfl
theorem w_287 : (Jvm.Cond.instanceMethod ({ cls := "RunForms$Rules", name := "numberAt", desc := "(LRunForms$Octets;I)I" } : Jvm.MethodName)) ∈ jT := jT_in 287 (by decide +kernel) rfl
theorem w_288 : (Jvm.Cond.selects "RunForms$Rules" ({ cls := "RunForms$Rules", name := "numberAt", desc := "(LRunForms$Octets;I)I" } : Jvm.MethodName) ({ cls := "RunForms$Rules", name := "numberAt", desc := "(LRunForms$Octets;I)I" } : Jvm.MethodName)) ∈ jT := jT_in 288 (by decide +kernel) rfl
theorem w_289 : (Jvm.Cond.code ({ cls := "RunForms$Rules", name := "numberAt", desc := "(LRunForms$Octets;I)I" } : Jvm.MethodName) prog_6_method_7_code (5 : Nat) (Option.some Jvm.ClassFile.FieldType.int)) ∈ jT := jT_in 289 (by decide +kernel) rfl
theorem w_290 : (Jvm.Cond.methodLink "RunForms$Rules" (27 : Nat) ({ cls := "RunForms$Octets", name := "get", desc := "(I)I" } : Jvm.MethodName)) ∈ jT := jT_in 290 (by decide +kernel) rfl
theorem w_291 : (Jvm.Cond.instanceMethod ({ cls := "RunForms$Octets", name := "get", desc := "(I)I" } : Jvm.MethodName)) ∈ jT := jT_in 291 (by decide +kernel) rfl
theorem w_292 : (Jvm.Cond.selects "RunForms$Octets" ({ cls := "RunForms$Octets", name := "get", desc := "(I)I" } : Jvm.MethodName) ({ cls := "RunForms$Octets", name := "get", desc := "(I)I" } : Jvm.MethodName)) ∈ jT := jT_in 292 (by decide +kernel) rfl
theorem w_293 : (Jvm.Cond.code ({ cls := "RunForms$Octets", name := "get", desc := "(I)I" } : Jvm.MethodName) prog_2_method_5_code (2 : Nat) (Option.some Jvm.ClassFile.FieldType.int)) ∈ jT := jT_in 293 (by decide +kernel) rfl
theorem w_294 : (Jvm.Cond.methodLink "RunForms$Packer" (86 : Nat) ({ cls := "RunForms$Rules", name := "modulo", desc := "(I)I" } : Jvm.MethodName)) ∈ jT := jT_in 294 (by decide +kernel) rfl
theorem w_295 : (Jvm.Cond.instanceMethod ({ cls := "RunForms$Rules", name := "modulo", desc := "(I)I" } : Jvm.MethodName)) ∈ jT := jT_in 295 (by decide +kernel) rfl
theorem w_296 : (Jvm.Cond.selects "RunForms$Rules" ({ cls := "RunForms$Rules", name := "modulo", desc := "(I)I" } : Jvm.MethodName) ({ cls := "RunForms$Rules", name := "modulo", desc := "(I)I" } : Jvm.MethodName)) ∈ jT := jT_in 296 (by decide +kernel) rfl
theorem w_297 : (Jvm.Cond.code ({ cls := "RunForms$Rules", name := "modulo", desc := "(I)I" } : Jvm.MethodName) prog_6_method_9_code (2 : Nat) (Option.some Jvm.ClassFile.FieldType.int)) ∈ jT := jT_in 297 (by decide +kernel) rfl
theorem w_298 : (Jvm.Cond.methodLink "RunForms$Packer" (59 : Nat) ({ cls := "java/lang/Math", name := "max", desc := "(II)I" } : Jvm.MethodName)) ∈ jT := jT_in 298 (by decide +kernel) rfl
theorem w_299 : (Jvm.Cond.static ({ cls := "java/lang/Math", name := "max", desc := "(II)I" } : Jvm.MethodName)) ∈ jT := jT_in 299 (by decide +kernel) rfl
theorem w_300 : (Jvm.Cond.code ({ cls := "java/lang/Math", name := "max", desc := "(II)I" } : Jvm.MethodName) prog_12_method_65_code (2 : Nat) (Option.some Jvm.ClassFile.FieldType.int)) ∈ jT := jT_in 300 (by decide +kernel) rfl
theorem w_301 : (Jvm.Cond.methodLink "RunForms$Packer" (65 : Nat) ({ cls := "java/lang/Math", name := "min", desc := "(II)I" } : Jvm.MethodName)) ∈ jT := jT_in 301 (by decide +kernel) rfl
theorem w_302 : (Jvm.Cond.static ({ cls := "java/lang/Math", name := "min", desc := "(II)I" } : Jvm.MethodName)) ∈ jT := jT_in 302 (by decide +kernel) rfl
theorem w_303 : (Jvm.Cond.code ({ cls := "java/lang/Math", name := "min", desc := "(II)I" } : Jvm.MethodName) prog_12_method_69_code (2 : Nat) (Option.some Jvm.ClassFile.FieldType.int)) ∈ jT := jT_in 303 (by decide +kernel) rfl
theorem w_304 : (Jvm.Cond.methodLink "RunForms$Packer" (68 : Nat) ({ cls := "RunForms$Packer", name := "addStretch", desc := "(III)V" } : Jvm.MethodName)) ∈ jT := jT_in 304 (by decide +kernel) rfl
theorem w_305 : (Jvm.Cond.instanceMethod ({ cls := "RunForms$Packer", name := "addStretch", desc := "(III)V" } : Jvm.MethodName)) ∈ jT := jT_in 305 (by decide +kernel) rfl
theorem w_306 : (Jvm.Cond.selects "RunForms$Packer" ({ cls := "RunForms$Packer", name := "addStretch", desc := "(III)V" } : Jvm.MethodName) ({ cls := "RunForms$Packer", name := "addStretch", desc := "(III)V" } : Jvm.MethodName)) ∈ jT := jT_in 306 (by decide +kernel) rfl
theorem w_307 : (Jvm.Cond.code ({ cls := "RunForms$Packer", name := "addStretch", desc := "(III)V" } : Jvm.MethodName) prog_4_method_4_code (4 : Nat) (Option.none : Option Jvm.ClassFile.FieldType)) ∈ jT := jT_in 307 (by decide +kernel) rfl
theorem w_308 : (Jvm.Cond.methodLink "RunForms$Packer" (92 : Nat) ({ cls := "RunForms$Packer", name := "measure", desc := "(I)V" } : Jvm.MethodName)) ∈ jT := jT_in 308 (by decide +kernel) rfl
theorem w_309 : (Jvm.Cond.instanceMethod ({ cls := "RunForms$Packer", name := "measure", desc := "(I)V" } : Jvm.MethodName)) ∈ jT := jT_in 309 (by decide +kernel) rfl
theorem w_310 : (Jvm.Cond.selects "RunForms$Packer" ({ cls := "RunForms$Packer", name := "measure", desc := "(I)V" } : Jvm.MethodName) ({ cls := "RunForms$Packer", name := "measure", desc := "(I)V" } : Jvm.MethodName)) ∈ jT := jT_in 310 (by decide +kernel) rfl
theorem w_311 : (Jvm.Cond.code ({ cls := "RunForms$Packer", name := "measure", desc := "(I)V" } : Jvm.MethodName) prog_4_method_5_code (4 : Nat) (Option.none : Option Jvm.ClassFile.FieldType)) ∈ jT := jT_in 311 (by decide +kernel) rfl
theorem w_312 : (Jvm.Cond.methodLink "RunForms$Packer" (95 : Nat) ({ cls := "RunForms$Packer", name := "planFewest", desc := "(I)V" } : Jvm.MethodName)) ∈ jT := jT_in 312 (by decide +kernel) rfl
theorem w_313 : (Jvm.Cond.instanceMethod ({ cls := "RunForms$Packer", name := "planFewest", desc := "(I)V" } : Jvm.MethodName)) ∈ jT := jT_in 313 (by decide +kernel) rfl
theorem w_314 : (Jvm.Cond.selects "RunForms$Packer" ({ cls := "RunForms$Packer", name := "planFewest", desc := "(I)V" } : Jvm.MethodName) ({ cls := "RunForms$Packer", name := "planFewest", desc := "(I)V" } : Jvm.MethodName)) ∈ jT := jT_in 314 (by decide +kernel) rfl
theorem w_315 : (Jvm.Cond.code ({ cls := "RunForms$Packer", name := "planFewest", desc := "(I)V" } : Jvm.MethodName) prog_4_method_7_code (3 : Nat) (Option.none : Option Jvm.ClassFile.FieldType)) ∈ jT := jT_in 315 (by decide +kernel) rfl
theorem w_316 : (Jvm.Cond.methodLink "RunForms$Packer" (114 : Nat) ({ cls := "RunForms$Packer", name := "chooseFewest", desc := "(I)V" } : Jvm.MethodName)) ∈ jT := jT_in 316 (by decide +kernel) rfl
theorem w_317 : (Jvm.Cond.instanceMethod ({ cls := "RunForms$Packer", name := "chooseFewest", desc := "(I)V" } : Jvm.MethodName)) ∈ jT := jT_in 317 (by decide +kernel) rfl
theorem w_318 : (Jvm.Cond.selects "RunForms$Packer" ({ cls := "RunForms$Packer", name := "chooseFewest", desc := "(I)V" } : Jvm.MethodName) ({ cls := "RunForms$Packer", name := "chooseFewest", desc := "(I)V" } : Jvm.MethodName)) ∈ jT := jT_in 318 (by decide +kernel) rfl
theorem w_319 : (Jvm.Cond.code ({ cls := "RunForms$Packer", name := "chooseFewest", desc := "(I)V" } : Jvm.MethodName) prog_4_method_8_code (4 : Nat) (Option.none : Option Jvm.ClassFile.FieldType)) ∈ jT := jT_in 319 (by decide +kernel) rfl
theorem w_320 : (Jvm.Cond.methodLink "RunForms$Packer" (117 : Nat) ({ cls := "RunForms$Packer", name := "choose", desc := "(III)V" } : Jvm.MethodName)) ∈ jT := jT_in 320 (by decide +kernel) rfl
theorem w_321 : (Jvm.Cond.instanceMethod ({ cls := "RunForms$Packer", name := "choose", desc := "(III)V" } : Jvm.MethodName)) ∈ jT := jT_in 321 (by decide +kernel) rfl
theorem w_322 : (Jvm.Cond.selects "RunForms$Packer" ({ cls := "RunForms$Packer", name := "choose", desc := "(III)V" } : Jvm.MethodName) ({ cls := "RunForms$Packer", name := "choose", desc := "(III)V" } : Jvm.MethodName)) ∈ jT := jT_in 322 (by decide +kernel) rfl
theorem w_323 : (Jvm.Cond.code ({ cls := "RunForms$Packer", name := "choose", desc := "(III)V" } : Jvm.MethodName) prog_4_method_10_code (4 : Nat) (Option.none : Option Jvm.ClassFile.FieldType)) ∈ jT := jT_in 323 (by decide +kernel) rfl
theorem w_324 : (Jvm.Cond.constant "RunForms$Packer" (120 : Nat) (1000000 : Int32)) ∈ jT := jT_in 324 (by decide +kernel) rfl
theorem w_325 : (Jvm.Cond.methodLink "RunForms$Packer" (121 : Nat) ({ cls := "RunForms$Packer", name := "beginsWithMark", desc := "(I)Z" } : Jvm.MethodName)) ∈ jT := jT_in 325 (by decide +kernel) rfl
theorem w_326 : (Jvm.Cond.instanceMethod ({ cls := "RunForms$Packer", name := "beginsWithMark", desc := "(I)Z" } : Jvm.MethodName)) ∈ jT := jT_in 326 (by decide +kernel) rfl
theorem w_327 : (Jvm.Cond.selects "RunForms$Packer" ({ cls := "RunForms$Packer", name := "beginsWithMark", desc := "(I)Z" } : Jvm.MethodName) ({ cls := "RunForms$Packer", name := "beginsWithMark", desc := "(I)Z" } : Jvm.MethodName)) ∈ jT := jT_in 327 (by decide +kernel) rfl
theorem w_328 : (Jvm.Cond.code ({ cls := "RunForms$Packer", name := "beginsWithMark", desc := "(I)Z" } : Jvm.MethodName) prog_4_method_18_code (2 : Nat) (Option.some Jvm.ClassFile.FieldType.boolean)) ∈ jT := jT_in 328 (by decide +kernel) rfl
theorem w_329 : (Jvm.Cond.methodLink "RunForms$Packer" (158 : Nat) ({ cls := "RunForms$Rules", name := "byteOf", desc := "(II)I" } : Jvm.MethodName)) ∈ jT := jT_in 329 (by decide +kernel) rfl
theorem w_330 : (Jvm.Cond.instanceMethod ({ cls := "RunForms$Rules", name := "byteOf", desc := "(II)I" } : Jvm.MethodName)) ∈ jT := jT_in 330 (by decide +kernel) rfl
theorem w_331 : (Jvm.Cond.selects "RunForms$Rules" ({ cls := "RunForms$Rules", name := "byteOf", desc := "(II)I" } : Jvm.MethodName) ({ cls := "RunForms$Rules", name := "byteOf", desc := "(II)I" } : Jvm.MethodName)) ∈ jT := jT_in 331 (by decide +kernel) rfl
theorem w_332 : (Jvm.Cond.code ({ cls := "RunForms$Rules", name := "byteOf", desc := "(II)I" } : Jvm.MethodName) prog_6_method_8_code (3 : Nat) (Option.some Jvm.ClassFile.FieldType.int)) ∈ jT := jT_in 332 (by decide +kernel) rfl
theorem w_333 : (Jvm.Cond.methodLink "RunForms$Packer" (125 : Nat) ({ cls := "RunForms$Packer", name := "mostThemselves", desc := "()I" } : Jvm.MethodName)) ∈ jT := jT_in 333 (by decide +kernel) rfl
theorem w_334 : (Jvm.Cond.instanceMethod ({ cls := "RunForms$Packer", name := "mostThemselves", desc := "()I" } : Jvm.MethodName)) ∈ jT := jT_in 334 (by decide +kernel) rfl
theorem w_335 : (Jvm.Cond.selects "RunForms$Packer" ({ cls := "RunForms$Packer", name := "mostThemselves", desc := "()I" } : Jvm.MethodName) ({ cls := "RunForms$Packer", name := "mostThemselves", desc := "()I" } : Jvm.MethodName)) ∈ jT := jT_in 335 (by decide +kernel) rfl
theorem w_336 : (Jvm.Cond.code ({ cls := "RunForms$Packer", name := "mostThemselves", desc := "()I" } : Jvm.MethodName) prog_4_method_17_code (1 : Nat) (Option.some Jvm.ClassFile.FieldType.int)) ∈ jT := jT_in 336 (by decide +kernel) rfl
theorem w_337 : (Jvm.Cond.methodLink "RunForms$Packer" (129 : Nat) ({ cls := "RunForms$Packer", name := "leastThemselves", desc := "()I" } : Jvm.MethodName)) ∈ jT := jT_in 337 (by decide +kernel) rfl
theorem w_338 : (Jvm.Cond.instanceMethod ({ cls := "RunForms$Packer", name := "leastThemselves", desc := "()I" } : Jvm.MethodName)) ∈ jT := jT_in 338 (by decide +kernel) rfl
theorem w_339 : (Jvm.Cond.selects "RunForms$Packer" ({ cls := "RunForms$Packer", name := "leastThemselves", desc := "()I" } : Jvm.MethodName) ({ cls := "RunForms$Packer", name := "leastThemselves", desc := "()I" } : Jvm.MethodName)) ∈ jT := jT_in 339 (by decide +kernel) rfl
theorem w_340 : (Jvm.Cond.code ({ cls := "RunForms$Packer", name := "leastThemselves", desc := "()I" } : Jvm.MethodName) prog_4_method_16_code (1 : Nat) (Option.some Jvm.ClassFile.FieldType.int)) ∈ jT := jT_in 340 (by decide +kernel) rfl
theorem w_341 : (Jvm.Cond.methodLink "RunForms$Packer" (132 : Nat) ({ cls := "RunForms$Packer", name := "lengthThemselves", desc := "(I)I" } : Jvm.MethodName)) ∈ jT := jT_in 341 (by decide +kernel) rfl
theorem w_342 : (Jvm.Cond.instanceMethod ({ cls := "RunForms$Packer", name := "lengthThemselves", desc := "(I)I" } : Jvm.MethodName)) ∈ jT := jT_in 342 (by decide +kernel) rfl
theorem w_343 : (Jvm.Cond.selects "RunForms$Packer" ({ cls := "RunForms$Packer", name := "lengthThemselves", desc := "(I)I" } : Jvm.MethodName) ({ cls := "RunForms$Packer", name := "lengthThemselves", desc := "(I)I" } : Jvm.MethodName)) ∈ jT := jT_in 343 (by decide +kernel) rfl
theorem w_344 : (Jvm.Cond.code ({ cls := "RunForms$Packer", name := "lengthThemselves", desc := "(I)I" } : Jvm.MethodName) prog_4_method_20_code (2 : Nat) (Option.some Jvm.ClassFile.FieldType.int)) ∈ jT := jT_in 344 (by decide +kernel) rfl
theorem w_345 : (Jvm.Cond.methodLink "RunForms$Packer" (135 : Nat) ({ cls := "RunForms$Packer", name := "offer", desc := "(IIII)V" } : Jvm.MethodName)) ∈ jT := jT_in 345 (by decide +kernel) rfl
theorem w_346 : (Jvm.Cond.instanceMethod ({ cls := "RunForms$Packer", name := "offer", desc := "(IIII)V" } : Jvm.MethodName)) ∈ jT := jT_in 346 (by decide +kernel) rfl
theorem w_347 : (Jvm.Cond.selects "RunForms$Packer" ({ cls := "RunForms$Packer", name := "offer", desc := "(IIII)V" } : Jvm.MethodName) ({ cls := "RunForms$Packer", name := "offer", desc := "(IIII)V" } : Jvm.MethodName)) ∈ jT := jT_in 347 (by decide +kernel) rfl
theorem w_348 : (Jvm.Cond.code ({ cls := "RunForms$Packer", name := "offer", desc := "(IIII)V" } : Jvm.MethodName) prog_4_method_9_code (6 : Nat) (Option.none : Option Jvm.ClassFile.FieldType)) ∈ jT := jT_in 348 (by decide +kernel) rfl
theorem w_349 : (Jvm.Cond.methodLink "RunForms$Packer" (139 : Nat) ({ cls := "RunForms$Packer", name := "runAt", desc := "(I)I" } : Jvm.MethodName)) ∈ jT := jT_in 349 (by decide +kernel) rfl
theorem w_350 : (Jvm.Cond.instanceMethod ({ cls := "RunForms$Packer", name := "runAt", desc := "(I)I" } : Jvm.MethodName)) ∈ jT := jT_in 350 (by decide +kernel) rfl
theorem w_351 : (Jvm.Cond.selects "RunForms$Packer" ({ cls := "RunForms$Packer", name := "runAt", desc := "(I)I" } : Jvm.MethodName) ({ cls := "RunForms$Packer", name := "runAt", desc := "(I)I" } : Jvm.MethodName)) ∈ jT := jT_in 351 (by decide +kernel) rfl
theorem w_352 : (Jvm.Cond.code ({ cls := "RunForms$Packer", name := "runAt", desc := "(I)I" } : Jvm.MethodName) prog_4_method_14_code (2 : Nat) (Option.some Jvm.ClassFile.FieldType.int)) ∈ jT := jT_in 352 (by decide +kernel) rfl
theorem w_353 : (Jvm.Cond.methodLink "RunForms$Packer" (142 : Nat) ({ cls := "RunForms$Packer", name := "leastRun", desc := "()I" } : Jvm.MethodName)) ∈ jT := jT_in 353 (by decide +kernel) rfl
theorem w_354 : (Jvm.Cond.instanceMethod ({ cls := "RunForms$Packer", name := "leastRun", desc := "()I" } : Jvm.MethodName)) ∈ jT := jT_in 354 (by decide +kernel) rfl
theorem w_355 : (Jvm.Cond.selects "RunForms$Packer" ({ cls := "RunForms$Packer", name := "leastRun", desc := "()I" } : Jvm.MethodName) ({ cls := "RunForms$Packer", name := "leastRun", desc := "()I" } : Jvm.MethodName)) ∈ jT := jT_in 355 (by decide +kernel) rfl
theorem w_356 : (Jvm.Cond.code ({ cls := "RunForms$Packer", name := "leastRun", desc := "()I" } : Jvm.MethodName) prog_4_method_15_code (1 : Nat) (Option.some Jvm.ClassFile.FieldType.int)) ∈ jT := jT_in 356 (by decide +kernel) rfl
theorem w_357 : (Jvm.Cond.methodLink "RunForms$Packer" (145 : Nat) ({ cls := "RunForms$Packer", name := "lengthRun", desc := "()I" } : Jvm.MethodName)) ∈ jT := jT_in 357 (by decide +kernel) rfl
theorem w_358 : (Jvm.Cond.instanceMethod ({ cls := "RunForms$Packer", name := "lengthRun", desc := "()I" } : Jvm.MethodName)) ∈ jT := jT_in 358 (by decide +kernel) rfl
theorem w_359 : (Jvm.Cond.selects "RunForms$Packer" ({ cls := "RunForms$Packer", name := "lengthRun", desc := "()I" } : Jvm.MethodName) ({ cls := "RunForms$Packer", name := "lengthRun", desc := "()I" } : Jvm.MethodName)) ∈ jT := jT_in 359 (by decide +kernel) rfl
theorem w_360 : (Jvm.Cond.code ({ cls := "RunForms$Packer", name := "lengthRun", desc := "()I" } : Jvm.MethodName) prog_4_method_19_code (1 : Nat) (Option.some Jvm.ClassFile.FieldType.int)) ∈ jT := jT_in 360 (by decide +kernel) rfl
theorem w_361 : (Jvm.Cond.methodLink "RunForms$Packer" (98 : Nat) ({ cls := "RunForms$Packer", name := "addPieces", desc := "(II)V" } : Jvm.MethodName)) ∈ jT := jT_in 361 (by decide +kernel) rfl
theorem w_362 : (Jvm.Cond.instanceMethod ({ cls := "RunForms$Packer", name := "addPieces", desc := "(II)V" } : Jvm.MethodName)) ∈ jT := jT_in 362 (by decide +kernel) rfl
theorem w_363 : (Jvm.Cond.selects "RunForms$Packer" ({ cls := "RunForms$Packer", name := "addPieces", desc := "(II)V" } : Jvm.MethodName) ({ cls := "RunForms$Packer", name := "addPieces", desc := "(II)V" } : Jvm.MethodName)) ∈ jT := jT_in 363 (by decide +kernel) rfl
theorem w_364 : (Jvm.Cond.code ({ cls := "RunForms$Packer", name := "addPieces", desc := "(II)V" } : Jvm.MethodName) prog_4_method_6_code (5 : Nat) (Option.none : Option Jvm.ClassFile.FieldType)) ∈ jT := jT_in 364 (by decide +kernel) rfl
theorem w_365 : (Jvm.Cond.methodLink "RunForms$Packer" (108 : Nat) ({ cls := "RunForms$Packer", name := "chooseGreedy", desc := "(I)V" } : Jvm.MethodName)) ∈ jT := jT_in 365 (by decide +kernel) rfl
theorem w_366 : (Jvm.Cond.instanceMethod ({ cls := "RunForms$Packer", name := "chooseGreedy", desc := "(I)V" } : Jvm.MethodName)) ∈ jT := jT_in 366 (by decide +kernel) rfl
theorem w_367 : (Jvm.Cond.selects "RunForms$Packer" ({ cls := "RunForms$Packer", name := "chooseGreedy", desc := "(I)V" } : Jvm.MethodName) ({ cls := "RunForms$Packer", name := "chooseGreedy", desc := "(I)V" } : Jvm.MethodName)) ∈ jT := jT_in 367 (by decide +kernel) rfl
theorem w_368 : (Jvm.Cond.code ({ cls := "RunForms$Packer", name := "chooseGreedy", desc := "(I)V" } : Jvm.MethodName) prog_4_method_11_code (5 : Nat) (Option.none : Option Jvm.ClassFile.FieldType)) ∈ jT := jT_in 368 (by decide +kernel) rfl
theorem w_369 : (Jvm.Cond.methodLink "RunForms$Packer" (148 : Nat) ({ cls := "RunForms$Packer", name := "greedyTakesRun", desc := "(II)Z" } : Jvm.MethodName)) ∈ jT := jT_in 369 (by decide +kernel) rfl
theorem w_370 : (Jvm.Cond.instanceMethod ({ cls := "RunForms$Packer", name := "greedyTakesRun", desc := "(II)Z" } : Jvm.MethodName)) ∈ jT := jT_in 370 (by decide +kernel) rfl
theorem w_371 : (Jvm.Cond.selects "RunForms$Packer" ({ cls := "RunForms$Packer", name := "greedyTakesRun", desc := "(II)Z" } : Jvm.MethodName) ({ cls := "RunForms$Packer", name := "greedyTakesRun", desc := "(II)Z" } : Jvm.MethodName)) ∈ jT := jT_in 371 (by decide +kernel) rfl
theorem w_372 : (Jvm.Cond.code ({ cls := "RunForms$Packer", name := "greedyTakesRun", desc := "(II)Z" } : Jvm.MethodName) prog_4_method_12_code (3 : Nat) (Option.some Jvm.ClassFile.FieldType.boolean)) ∈ jT := jT_in 372 (by decide +kernel) rfl
theorem w_373 : (Jvm.Cond.methodLink "RunForms$Packer" (152 : Nat) ({ cls := "RunForms$Packer", name := "greedyThemselves", desc := "(I)I" } : Jvm.MethodName)) ∈ jT := jT_in 373 (by decide +kernel) rfl
theorem w_374 : (Jvm.Cond.instanceMethod ({ cls := "RunForms$Packer", name := "greedyThemselves", desc := "(I)I" } : Jvm.MethodName)) ∈ jT := jT_in 374 (by decide +kernel) rfl
theorem w_375 : (Jvm.Cond.selects "RunForms$Packer" ({ cls := "RunForms$Packer", name := "greedyThemselves", desc := "(I)I" } : Jvm.MethodName) ({ cls := "RunForms$Packer", name := "greedyThemselves", desc := "(I)I" } : Jvm.MethodName)) ∈ jT := jT_in 375 (by decide +kernel) rfl
theorem w_376 : (Jvm.Cond.code ({ cls := "RunForms$Packer", name := "greedyThemselves", desc := "(I)I" } : Jvm.MethodName) prog_4_method_13_code (5 : Nat) (Option.some Jvm.ClassFile.FieldType.int)) ∈ jT := jT_in 376 (by decide +kernel) rfl
theorem w_377 : (Jvm.Cond.methodLink "RunForms$Packer" (111 : Nat) ({ cls := "RunForms$Packer", name := "addPiece", desc := "(I)V" } : Jvm.MethodName)) ∈ jT := jT_in 377 (by decide +kernel) rfl
theorem w_378 : (Jvm.Cond.instanceMethod ({ cls := "RunForms$Packer", name := "addPiece", desc := "(I)V" } : Jvm.MethodName)) ∈ jT := jT_in 378 (by decide +kernel) rfl
theorem w_379 : (Jvm.Cond.selects "RunForms$Packer" ({ cls := "RunForms$Packer", name := "addPiece", desc := "(I)V" } : Jvm.MethodName) ({ cls := "RunForms$Packer", name := "addPiece", desc := "(I)V" } : Jvm.MethodName)) ∈ jT := jT_in 379 (by decide +kernel) rfl
theorem w_380 : (Jvm.Cond.code ({ cls := "RunForms$Packer", name := "addPiece", desc := "(I)V" } : Jvm.MethodName) prog_4_method_21_code (4 : Nat) (Option.none : Option Jvm.ClassFile.FieldType)) ∈ jT := jT_in 380 (by decide +kernel) rfl
theorem w_381 : (Jvm.Cond.methodLink "RunForms$Packer" (164 : Nat) ({ cls := "RunForms$Packer", name := "addRunHead", desc := "(I)V" } : Jvm.MethodName)) ∈ jT := jT_in 381 (by decide +kernel) rfl
theorem w_382 : (Jvm.Cond.instanceMethod ({ cls := "RunForms$Packer", name := "addRunHead", desc := "(I)V" } : Jvm.MethodName)) ∈ jT := jT_in 382 (by decide +kernel) rfl
theorem w_383 : (Jvm.Cond.selects "RunForms$Packer" ({ cls := "RunForms$Packer", name := "addRunHead", desc := "(I)V" } : Jvm.MethodName) ({ cls := "RunForms$Packer", name := "addRunHead", desc := "(I)V" } : Jvm.MethodName)) ∈ jT := jT_in 383 (by decide +kernel) rfl
theorem w_384 : (Jvm.Cond.code ({ cls := "RunForms$Packer", name := "addRunHead", desc := "(I)V" } : Jvm.MethodName) prog_4_method_22_code (2 : Nat) (Option.none : Option Jvm.ClassFile.FieldType)) ∈ jT := jT_in 384 (by decide +kernel) rfl
theorem w_385 : (Jvm.Cond.methodLink "RunForms$Packer" (102 : Nat) ({ cls := "RunForms$Octets", name := "add", desc := "(I)V" } : Jvm.MethodName)) ∈ jT := jT_in 385 (by decide +kernel) rfl
theorem w_386 : (Jvm.Cond.methodLink "RunForms$Packer" (167 : Nat) ({ cls := "RunForms$Packer", name := "addUnit", desc := "(I)V" } : Jvm.MethodName)) ∈ jT := jT_in 386 (by decide +kernel) rfl
theorem w_387 : (Jvm.Cond.instanceMethod ({ cls := "RunForms$Packer", name := "addUnit", desc := "(I)V" } : Jvm.MethodName)) ∈ jT := jT_in 387 (by decide +kernel) rfl
theorem w_388 : (Jvm.Cond.selects "RunForms$Packer" ({ cls := "RunForms$Packer", name := "addUnit", desc := "(I)V" } : Jvm.MethodName) ({ cls := "RunForms$Packer", name := "addUnit", desc := "(I)V" } : Jvm.MethodName)) ∈ jT := jT_in 388 (by decide +kernel) rfl
theorem w_389 : (Jvm.Cond.code ({ cls := "RunForms$Packer", name := "addUnit", desc := "(I)V" } : Jvm.MethodName) prog_4_method_24_code (3 : Nat) (Option.none : Option Jvm.ClassFile.FieldType)) ∈ jT := jT_in 389 (by decide +kernel) rfl
theorem w_390 : (Jvm.Cond.methodLink "RunForms$Packer" (170 : Nat) ({ cls := "RunForms$Packer", name := "addThemselvesHead", desc := "(I)V" } : Jvm.MethodName)) ∈ jT := jT_in 390 (by decide +kernel) rfl
theorem w_391 : (Jvm.Cond.instanceMethod ({ cls := "RunForms$Packer", name := "addThemselvesHead", desc := "(I)V" } : Jvm.MethodName)) ∈ jT := jT_in 391 (by decide +kernel) rfl
theorem w_392 : (Jvm.Cond.selects "RunForms$Packer" ({ cls := "RunForms$Packer", name := "addThemselvesHead", desc := "(I)V" } : Jvm.MethodName) ({ cls := "RunForms$Packer", name := "addThemselvesHead", desc := "(I)V" } : Jvm.MethodName)) ∈ jT := jT_in 392 (by decide +kernel) rfl
theorem w_393 : (Jvm.Cond.code ({ cls := "RunForms$Packer", name := "addThemselvesHead", desc := "(I)V" } : Jvm.MethodName) prog_4_method_23_code (2 : Nat) (Option.none : Option Jvm.ClassFile.FieldType)) ∈ jT := jT_in 393 (by decide +kernel) rfl
theorem w_394 : (Jvm.Cond.methodLink "RunForms$Packer" (72 : Nat) ({ cls := "RunForms$Packer", name := "addEnd", desc := "()V" } : Jvm.MethodName)) ∈ jT := jT_in 394 (by decide +kernel) rfl
theorem w_395 : (Jvm.Cond.instanceMethod ({ cls := "RunForms$Packer", name := "addEnd", desc := "()V" } : Jvm.MethodName)) ∈ jT := jT_in 395 (by decide +kernel) rfl
theorem w_396 : (Jvm.Cond.selects "RunForms$Packer" ({ cls := "RunForms$Packer", name := "addEnd", desc := "()V" } : Jvm.MethodName) ({ cls := "RunForms$Packer", name := "addEnd", desc := "()V" } : Jvm.MethodName)) ∈ jT := jT_in 396 (by decide +kernel) rfl
theorem w_397 : (Jvm.Cond.code ({ cls := "RunForms$Packer", name := "addEnd", desc := "()V" } : Jvm.MethodName) prog_4_method_25_code (1 : Nat) (Option.none : Option Jvm.ClassFile.FieldType)) ∈ jT := jT_in 397 (by decide +kernel) rfl
theorem w_398 : (Jvm.Cond.methodLink "RunForms" (87 : Nat) ({ cls := "RunForms$Octets", name := "become", desc := "(LRunForms$Octets;)V" } : Jvm.MethodName)) ∈ jT := jT_in 398 (by decide +kernel) rfl
theorem w_399 : (Jvm.Cond.instanceMethod ({ cls := "RunForms$Octets", name := "become", desc := "(LRunForms$Octets;)V" } : Jvm.MethodName)) ∈ jT := jT_in 399 (by decide +kernel) rfl
theorem w_400 : (Jvm.Cond.selects "RunForms$Octets" ({ cls := "RunForms$Octets", name := "become", desc := "(LRunForms$Octets;)V" } : Jvm.MethodName) ({ cls := "RunForms$Octets", name := "become", desc := "(LRunForms$Octets;)V" } : Jvm.MethodName)) ∈ jT := jT_in 400 (by decide +kernel) rfl
theorem w_401 : (Jvm.Cond.code ({ cls := "RunForms$Octets", name := "become", desc := "(LRunForms$Octets;)V" } : Jvm.MethodName) prog_2_method_7_code (2 : Nat) (Option.none : Option Jvm.ClassFile.FieldType)) ∈ jT := jT_in 401 (by decide +kernel) rfl
theorem w_402 : (Jvm.Cond.methodLink "RunForms$Octets" (25 : Nat) ({ cls := "java/lang/Math", name := "min", desc := "(II)I" } : Jvm.MethodName)) ∈ jT := jT_in 402 (by decide +kernel) rfl
theorem w_403 : (Jvm.Cond.methodLink "RunForms$Octets" (31 : Nat) ({ cls := "java/lang/System", name := "arraycopy", desc := "(Ljava/lang/Object;ILjava/lang/Object;II)V" } : Jvm.MethodName)) ∈ jT := jT_in 403 (by decide +kernel) rfl
theorem w_404 : (Jvm.Cond.static ({ cls := "java/lang/System", name := "arraycopy", desc := "(Ljava/lang/Object;ILjava/lang/Object;II)V" } : Jvm.MethodName)) ∈ jT := jT_in 404 (by decide +kernel) rfl
theorem w_405 : (Jvm.Cond.native ({ cls := "java/lang/System", name := "arraycopy", desc := "(Ljava/lang/Object;ILjava/lang/Object;II)V" } : Jvm.MethodName)) ∈ jT := jT_in 405 (by decide +kernel) rfl
theorem w_409 : (Jvm.Cond.code ({ cls := "RunForms", name := "size", desc := "(I)I" } : Jvm.MethodName) prog_1_method_8_code (3 : Nat) (Option.some Jvm.ClassFile.FieldType.int)) ∈ jT := jT_in 409 (by decide +kernel) rfl
theorem w_413 : (Jvm.Cond.code ({ cls := "RunForms", name := "open", desc := "()I" } : Jvm.MethodName) prog_1_method_9_code (1 : Nat) (Option.some Jvm.ClassFile.FieldType.int)) ∈ jT := jT_in 413 (by decide +kernel) rfl
theorem w_414 : (Jvm.Cond.methodLink "RunForms" (91 : Nat) ({ cls := "RunForms$Opener", name := "run", desc := "()V" } : Jvm.MethodName)) ∈ jT := jT_in 414 (by decide +kernel) rfl
theorem w_415 : (Jvm.Cond.instanceMethod ({ cls := "RunForms$Opener", name := "run", desc := "()V" } : Jvm.MethodName)) ∈ jT := jT_in 415 (by decide +kernel) rfl
theorem w_416 : (Jvm.Cond.selects "RunForms$Opener" ({ cls := "RunForms$Opener", name := "run", desc := "()V" } : Jvm.MethodName) ({ cls := "RunForms$Opener", name := "run", desc := "()V" } : Jvm.MethodName)) ∈ jT := jT_in 416 (by decide +kernel) rfl
theorem w_417 : (Jvm.Cond.code ({ cls := "RunForms$Opener", name := "run", desc := "()V" } : Jvm.MethodName) prog_3_method_2_code (2 : Nat) (Option.none : Option Jvm.ClassFile.FieldType)) ∈ jT := jT_in 417 (by decide +kernel) rfl
theorem w_418 : (Jvm.Cond.methodLink "RunForms$Opener" (31 : Nat) ({ cls := "RunForms$Octets", name := "blank", desc := "()V" } : Jvm.MethodName)) ∈ jT := jT_in 418 (by decide +kernel) rfl
theorem w_419 : (Jvm.Cond.instanceMethod ({ cls := "RunForms$Octets", name := "blank", desc := "()V" } : Jvm.MethodName)) ∈ jT := jT_in 419 (by decide +kernel) rfl
theorem w_420 : (Jvm.Cond.selects "RunForms$Octets" ({ cls := "RunForms$Octets", name := "blank", desc := "()V" } : Jvm.MethodName) ({ cls := "RunForms$Octets", name := "blank", desc := "()V" } : Jvm.MethodName)) ∈ jT := jT_in 420 (by decide +kernel) rfl
theorem w_421 : (Jvm.Cond.code ({ cls := "RunForms$Octets", name := "blank", desc := "()V" } : Jvm.MethodName) prog_2_method_6_code (1 : Nat) (Option.none : Option Jvm.ClassFile.FieldType)) ∈ jT := jT_in 421 (by decide +kernel) rfl
theorem w_422 : (Jvm.Cond.methodLink "RunForms$Octets" (19 : Nat) ({ cls := "java/util/Arrays", name := "fill", desc := "([BB)V" } : Jvm.MethodName)) ∈ jT := jT_in 422 (by decide +kernel) rfl
theorem w_423 : (Jvm.Cond.static ({ cls := "java/util/Arrays", name := "fill", desc := "([BB)V" } : Jvm.MethodName)) ∈ jT := jT_in 423 (by decide +kernel) rfl
theorem w_424 : (Jvm.Cond.code ({ cls := "java/util/Arrays", name := "fill", desc := "([BB)V" } : Jvm.MethodName) prog_17_method_109_code (4 : Nat) (Option.none : Option Jvm.ClassFile.FieldType)) ∈ jT := jT_in 424 (by decide +kernel) rfl
theorem w_425 : (Jvm.Cond.methodLink "RunForms$Opener" (50 : Nat) ({ cls := "RunForms$Opener", name := "takePiece", desc := "()I" } : Jvm.MethodName)) ∈ jT := jT_in 425 (by decide +kernel) rfl
theorem w_426 : (Jvm.Cond.instanceMethod ({ cls := "RunForms$Opener", name := "takePiece", desc := "()I" } : Jvm.MethodName)) ∈ jT := jT_in 426 (by decide +kernel) rfl
theorem w_427 : (Jvm.Cond.selects "RunForms$Opener" ({ cls := "RunForms$Opener", name := "takePiece", desc := "()I" } : Jvm.MethodName) ({ cls := "RunForms$Opener", name := "takePiece", desc := "()I" } : Jvm.MethodName)) ∈ jT := jT_in 427 (by decide +kernel) rfl
theorem w_428 : (Jvm.Cond.code ({ cls := "RunForms$Opener", name := "takePiece", desc := "()I" } : Jvm.MethodName) prog_3_method_3_code (1 : Nat) (Option.some Jvm.ClassFile.FieldType.int)) ∈ jT := jT_in 428 (by decide +kernel) rfl
theorem w_429 : (Jvm.Cond.methodLink "RunForms$Opener" (65 : Nat) ({ cls := "RunForms$Opener", name := "takeMarked", desc := "()I" } : Jvm.MethodName)) ∈ jT := jT_in 429 (by decide +kernel) rfl
theorem w_430 : (Jvm.Cond.instanceMethod ({ cls := "RunForms$Opener", name := "takeMarked", desc := "()I" } : Jvm.MethodName)) ∈ jT := jT_in 430 (by decide +kernel) rfl
theorem w_431 : (Jvm.Cond.selects "RunForms$Opener" ({ cls := "RunForms$Opener", name := "takeMarked", desc := "()I" } : Jvm.MethodName) ({ cls := "RunForms$Opener", name := "takeMarked", desc := "()I" } : Jvm.MethodName)) ∈ jT := jT_in 431 (by decide +kernel) rfl
theorem w_432 : (Jvm.Cond.code ({ cls := "RunForms$Opener", name := "takeMarked", desc := "()I" } : Jvm.MethodName) prog_3_method_4_code (3 : Nat) (Option.some Jvm.ClassFile.FieldType.int)) ∈ jT := jT_in 432 (by decide +kernel) rfl
theorem w_433 : (Jvm.Cond.methodLink "RunForms$Opener" (77 : Nat) ({ cls := "RunForms$Octets", name := "get", desc := "(I)I" } : Jvm.MethodName)) ∈ jT := jT_in 433 (by decide +kernel) rfl
theorem w_434 : (Jvm.Cond.methodLink "RunForms$Opener" (84 : Nat) ({ cls := "RunForms$Opener", name := "takeUnits", desc := "(III)I" } : Jvm.MethodName)) ∈ jT := jT_in 434 (by decide +kernel) rfl
theorem w_435 : (Jvm.Cond.instanceMethod ({ cls := "RunForms$Opener", name := "takeUnits", desc := "(III)I" } : Jvm.MethodName)) ∈ jT := jT_in 435 (by decide +kernel) rfl
theorem w_436 : (Jvm.Cond.selects "RunForms$Opener" ({ cls := "RunForms$Opener", name := "takeUnits", desc := "(III)I" } : Jvm.MethodName) ({ cls := "RunForms$Opener", name := "takeUnits", desc := "(III)I" } : Jvm.MethodName)) ∈ jT := jT_in 436 (by decide +kernel) rfl
theorem w_437 : (Jvm.Cond.code ({ cls := "RunForms$Opener", name := "takeUnits", desc := "(III)I" } : Jvm.MethodName) prog_3_method_6_code (7 : Nat) (Option.some Jvm.ClassFile.FieldType.int)) ∈ jT := jT_in 437 (by decide +kernel) rfl
theorem w_438 : (Jvm.Cond.methodLink "RunForms$Opener" (94 : Nat) ({ cls := "RunForms$Octets", name := "hasRoom", desc := "(I)Z" } : Jvm.MethodName)) ∈ jT := jT_in 438 (by decide +kernel) rfl
theorem w_439 : (Jvm.Cond.methodLink "RunForms$Opener" (98 : Nat) ({ cls := "RunForms$Octets", name := "add", desc := "(I)V" } : Jvm.MethodName)) ∈ jT := jT_in 439 (by decide +kernel) rfl
theorem w_440 : (Jvm.Cond.methodLink "RunForms$Opener" (88 : Nat) ({ cls := "RunForms$Opener", name := "takeEnd", desc := "()I" } : Jvm.MethodName)) ∈ jT := jT_in 440 (by decide +kernel) rfl
theorem w_441 : (Jvm.Cond.instanceMethod ({ cls := "RunForms$Opener", name := "takeEnd", desc := "()I" } : Jvm.MethodName)) ∈ jT := jT_in 441 (by decide +kernel) rfl
theorem w_442 : (Jvm.Cond.selects "RunForms$Opener" ({ cls := "RunForms$Opener", name := "takeEnd", desc := "()I" } : Jvm.MethodName) ({ cls := "RunForms$Opener", name := "takeEnd", desc := "()I" } : Jvm.MethodName)) ∈ jT := jT_in 442 (by decide +kernel) rfl
theorem w_443 : (Jvm.Cond.code ({ cls := "RunForms$Opener", name := "takeEnd", desc := "()I" } : Jvm.MethodName) prog_3_method_7_code (1 : Nat) (Option.some Jvm.ClassFile.FieldType.int)) ∈ jT := jT_in 443 (by decide +kernel) rfl
theorem w_444 : (Jvm.Cond.methodLink "RunForms$Opener" (68 : Nat) ({ cls := "RunForms$Opener", name := "takeSigned", desc := "()I" } : Jvm.MethodName)) ∈ jT := jT_in 444 (by decide +kernel) rfl
theorem w_445 : (Jvm.Cond.instanceMethod ({ cls := "RunForms$Opener", name := "takeSigned", desc := "()I" } : Jvm.MethodName)) ∈ jT := jT_in 445 (by decide +kernel) rfl
theorem w_446 : (Jvm.Cond.selects "RunForms$Opener" ({ cls := "RunForms$Opener", name := "takeSigned", desc := "()I" } : Jvm.MethodName) ({ cls := "RunForms$Opener", name := "takeSigned", desc := "()I" } : Jvm.MethodName)) ∈ jT := jT_in 446 (by decide +kernel) rfl
theorem w_447 : (Jvm.Cond.code ({ cls := "RunForms$Opener", name := "takeSigned", desc := "()I" } : Jvm.MethodName) prog_3_method_5_code (2 : Nat) (Option.some Jvm.ClassFile.FieldType.int)) ∈ jT := jT_in 447 (by decide +kernel) rfl
theorem w_448 : (Jvm.Cond.methodLink "RunForms$Opener" (71 : Nat) ({ cls := "RunForms$Opener", name := "takeRows", desc := "()I" } : Jvm.MethodName)) ∈ jT := jT_in 448 (by decide +kernel) rfl
theorem w_449 : (Jvm.Cond.instanceMethod ({ cls := "RunForms$Opener", name := "takeRows", desc := "()I" } : Jvm.MethodName)) ∈ jT := jT_in 449 (by decide +kernel) rfl
theorem w_450 : (Jvm.Cond.selects "RunForms$Opener" ({ cls := "RunForms$Opener", name := "takeRows", desc := "()I" } : Jvm.MethodName) ({ cls := "RunForms$Opener", name := "takeRows", desc := "()I" } : Jvm.MethodName)) ∈ jT := jT_in 450 (by decide +kernel) rfl
theorem w_451 : (Jvm.Cond.code ({ cls := "RunForms$Opener", name := "takeRows", desc := "()I" } : Jvm.MethodName) prog_3_method_8_code (4 : Nat) (Option.some Jvm.ClassFile.FieldType.int)) ∈ jT := jT_in 451 (by decide +kernel) rfl
theorem w_452 : (Jvm.Cond.methodLink "RunForms$Opener" (101 : Nat) ({ cls := "RunForms$Opener", name := "takeRowRun", desc := "(II)I" } : Jvm.MethodName)) ∈ jT := jT_in 452 (by decide +kernel) rfl
theorem w_453 : (Jvm.Cond.instanceMethod ({ cls := "RunForms$Opener", name := "takeRowRun", desc := "(II)I" } : Jvm.MethodName)) ∈ jT := jT_in 453 (by decide +kernel) rfl
theorem w_454 : (Jvm.Cond.selects "RunForms$Opener" ({ cls := "RunForms$Opener", name := "takeRowRun", desc := "(II)I" } : Jvm.MethodName) ({ cls := "RunForms$Opener", name := "takeRowRun", desc := "(II)I" } : Jvm.MethodName)) ∈ jT := jT_in 454 (by decide +kernel) rfl
theorem w_455 : (Jvm.Cond.code ({ cls := "RunForms$Opener", name := "takeRowRun", desc := "(II)I" } : Jvm.MethodName) prog_3_method_9_code (5 : Nat) (Option.some Jvm.ClassFile.FieldType.int)) ∈ jT := jT_in 455 (by decide +kernel) rfl
theorem w_456 : (Jvm.Cond.methodLink "RunForms$Opener" (114 : Nat) ({ cls := "RunForms$Opener", name := "rowFault", desc := "(I)I" } : Jvm.MethodName)) ∈ jT := jT_in 456 (by decide +kernel) rfl
theorem w_457 : (Jvm.Cond.instanceMethod ({ cls := "RunForms$Opener", name := "rowFault", desc := "(I)I" } : Jvm.MethodName)) ∈ jT := jT_in 457 (by decide +kernel) rfl
theorem w_458 : (Jvm.Cond.selects "RunForms$Opener" ({ cls := "RunForms$Opener", name := "rowFault", desc := "(I)I" } : Jvm.MethodName) ({ cls := "RunForms$Opener", name := "rowFault", desc := "(I)I" } : Jvm.MethodName)) ∈ jT := jT_in 458 (by decide +kernel) rfl
theorem w_459 : (Jvm.Cond.code ({ cls := "RunForms$Opener", name := "rowFault", desc := "(I)I" } : Jvm.MethodName) prog_3_method_13_code (2 : Nat) (Option.some Jvm.ClassFile.FieldType.int)) ∈ jT := jT_in 459 (by decide +kernel) rfl
theorem w_460 : (Jvm.Cond.methodLink "RunForms$Opener" (117 : Nat) ({ cls := "RunForms$Opener", name := "putInRow", desc := "(I)V" } : Jvm.MethodName)) ∈ jT := jT_in 460 (by decide +kernel) rfl
theorem w_461 : (Jvm.Cond.instanceMethod ({ cls := "RunForms$Opener", name := "putInRow", desc := "(I)V" } : Jvm.MethodName)) ∈ jT := jT_in 461 (by decide +kernel) rfl
theorem w_462 : (Jvm.Cond.selects "RunForms$Opener" ({ cls := "RunForms$Opener", name := "putInRow", desc := "(I)V" } : Jvm.MethodName) ({ cls := "RunForms$Opener", name := "putInRow", desc := "(I)V" } : Jvm.MethodName)) ∈ jT := jT_in 462 (by decide +kernel) rfl
theorem w_463 : (Jvm.Cond.code ({ cls := "RunForms$Opener", name := "putInRow", desc := "(I)V" } : Jvm.MethodName) prog_3_method_14_code (2 : Nat) (Option.none : Option Jvm.ClassFile.FieldType)) ∈ jT := jT_in 463 (by decide +kernel) rfl
theorem w_464 : (Jvm.Cond.methodLink "RunForms$Opener" (120 : Nat) ({ cls := "RunForms$Opener", name := "countRow", desc := "()V" } : Jvm.MethodName)) ∈ jT := jT_in 464 (by decide +kernel) rfl
theorem w_465 : (Jvm.Cond.instanceMethod ({ cls := "RunForms$Opener", name := "countRow", desc := "()V" } : Jvm.MethodName)) ∈ jT := jT_in 465 (by decide +kernel) rfl
theorem w_466 : (Jvm.Cond.selects "RunForms$Opener" ({ cls := "RunForms$Opener", name := "countRow", desc := "()V" } : Jvm.MethodName) ({ cls := "RunForms$Opener", name := "countRow", desc := "()V" } : Jvm.MethodName)) ∈ jT := jT_in 466 (by decide +kernel) rfl
theorem w_467 : (Jvm.Cond.code ({ cls := "RunForms$Opener", name := "countRow", desc := "()V" } : Jvm.MethodName) prog_3_method_15_code (1 : Nat) (Option.none : Option Jvm.ClassFile.FieldType)) ∈ jT := jT_in 467 (by decide +kernel) rfl
theorem w_468 : (Jvm.Cond.methodLink "RunForms$Opener" (126 : Nat) ({ cls := "RunForms$Octets", name := "set", desc := "(II)V" } : Jvm.MethodName)) ∈ jT := jT_in 468 (by decide +kernel) rfl
theorem w_469 : (Jvm.Cond.instanceMethod ({ cls := "RunForms$Octets", name := "set", desc := "(II)V" } : Jvm.MethodName)) ∈ jT := jT_in 469 (by decide +kernel) rfl
theorem w_470 : (Jvm.Cond.selects "RunForms$Octets" ({ cls := "RunForms$Octets", name := "set", desc := "(II)V" } : Jvm.MethodName) ({ cls := "RunForms$Octets", name := "set", desc := "(II)V" } : Jvm.MethodName)) ∈ jT := jT_in 470 (by decide +kernel) rfl
theorem w_471 : (Jvm.Cond.code ({ cls := "RunForms$Octets", name := "set", desc := "(II)V" } : Jvm.MethodName) prog_2_method_4_code (3 : Nat) (Option.none : Option Jvm.ClassFile.FieldType)) ∈ jT := jT_in 471 (by decide +kernel) rfl
theorem w_472 : (Jvm.Cond.methodLink "RunForms$Opener" (105 : Nat) ({ cls := "RunForms$Opener", name := "takeRowEnd", desc := "()I" } : Jvm.MethodName)) ∈ jT := jT_in 472 (by decide +kernel) rfl
theorem w_473 : (Jvm.Cond.instanceMethod ({ cls := "RunForms$Opener", name := "takeRowEnd", desc := "()I" } : Jvm.MethodName)) ∈ jT := jT_in 473 (by decide +kernel) rfl
theorem w_474 : (Jvm.Cond.selects "RunForms$Opener" ({ cls := "RunForms$Opener", name := "takeRowEnd", desc := "()I" } : Jvm.MethodName) ({ cls := "RunForms$Opener", name := "takeRowEnd", desc := "()I" } : Jvm.MethodName)) ∈ jT := jT_in 474 (by decide +kernel) rfl
theorem w_475 : (Jvm.Cond.code ({ cls := "RunForms$Opener", name := "takeRowEnd", desc := "()I" } : Jvm.MethodName) prog_3_method_11_code (2 : Nat) (Option.some Jvm.ClassFile.FieldType.int)) ∈ jT := jT_in 475 (by decide +kernel) rfl
theorem w_476 : (Jvm.Cond.methodLink "RunForms$Opener" (108 : Nat) ({ cls := "RunForms$Opener", name := "takeGoingOn", desc := "()I" } : Jvm.MethodName)) ∈ jT := jT_in 476 (by decide +kernel) rfl
theorem w_477 : (Jvm.Cond.instanceMethod ({ cls := "RunForms$Opener", name := "takeGoingOn", desc := "()I" } : Jvm.MethodName)) ∈ jT := jT_in 477 (by decide +kernel) rfl
theorem w_478 : (Jvm.Cond.selects "RunForms$Opener" ({ cls := "RunForms$Opener", name := "takeGoingOn", desc := "()I" } : Jvm.MethodName) ({ cls := "RunForms$Opener", name := "takeGoingOn", desc := "()I" } : Jvm.MethodName)) ∈ jT := jT_in 478 (by decide +kernel) rfl
theorem w_479 : (Jvm.Cond.code ({ cls := "RunForms$Opener", name := "takeGoingOn", desc := "()I" } : Jvm.MethodName) prog_3_method_12_code (2 : Nat) (Option.some Jvm.ClassFile.FieldType.int)) ∈ jT := jT_in 479 (by decide +kernel) rfl
theorem w_480 : (Jvm.Cond.methodLink "RunForms$Opener" (111 : Nat) ({ cls := "RunForms$Opener", name := "takeRowBytes", desc := "(I)I" } : Jvm.MethodName)) ∈ jT := jT_in 480 (by decide +kernel) rfl
theorem w_481 : (Jvm.Cond.instanceMethod ({ cls := "RunForms$Opener", name := "takeRowBytes", desc := "(I)I" } : Jvm.MethodName)) ∈ jT := jT_in 481 (by decide +kernel) rfl
theorem w_482 : (Jvm.Cond.selects "RunForms$Opener" ({ cls := "RunForms$Opener", name := "takeRowBytes", desc := "(I)I" } : Jvm.MethodName) ({ cls := "RunForms$Opener", name := "takeRowBytes", desc := "(I)I" } : Jvm.MethodName)) ∈ jT := jT_in 482 (by decide +kernel) rfl
theorem w_483 : (Jvm.Cond.code ({ cls := "RunForms$Opener", name := "takeRowBytes", desc := "(I)I" } : Jvm.MethodName) prog_3_method_10_code (5 : Nat) (Option.some Jvm.ClassFile.FieldType.int)) ∈ jT := jT_in 483 (by decide +kernel) rfl
theorem w_484 : (Jvm.Cond.methodLink "RunForms$Opener" (59 : Nat) ({ cls := "RunForms$Opener", name := "addUp", desc := "()V" } : Jvm.MethodName)) ∈ jT := jT_in 484 (by decide +kernel) rfl
theorem w_485 : (Jvm.Cond.instanceMethod ({ cls := "RunForms$Opener", name := "addUp", desc := "()V" } : Jvm.MethodName)) ∈ jT := jT_in 485 (by decide +kernel) rfl
theorem w_486 : (Jvm.Cond.selects "RunForms$Opener" ({ cls := "RunForms$Opener", name := "addUp", desc := "()V" } : Jvm.MethodName) ({ cls := "RunForms$Opener", name := "addUp", desc := "()V" } : Jvm.MethodName)) ∈ jT := jT_in 486 (by decide +kernel) rfl
theorem w_487 : (Jvm.Cond.code ({ cls := "RunForms$Opener", name := "addUp", desc := "()V" } : Jvm.MethodName) prog_3_method_16_code (4 : Nat) (Option.none : Option Jvm.ClassFile.FieldType)) ∈ jT := jT_in 487 (by decide +kernel) rfl
theorem w_488 : (Jvm.Cond.methodLink "RunForms$Opener" (130 : Nat) ({ cls := "RunForms$Rules", name := "unitsIn", desc := "(I)I" } : Jvm.MethodName)) ∈ jT := jT_in 488 (by decide +kernel) rfl
theorem w_489 : (Jvm.Cond.methodLink "RunForms$Opener" (133 : Nat) ({ cls := "RunForms$Rules", name := "numberAt", desc := "(LRunForms$Octets;I)I" } : Jvm.MethodName)) ∈ jT := jT_in 489 (by decide +kernel) rfl
theorem w_490 : (Jvm.Cond.methodLink "RunForms$Opener" (137 : Nat) ({ cls := "RunForms$Rules", name := "byteOf", desc := "(II)I" } : Jvm.MethodName)) ∈ jT := jT_in 490 (by decide +kernel) rfl
theorem w_494 : (Jvm.Cond.code ({ cls := "RunForms", name := "fault", desc := "()I" } : Jvm.MethodName) prog_1_method_10_code (1 : Nat) (Option.some Jvm.ClassFile.FieldType.int)) ∈ jT := jT_in 494 (by decide +kernel) rfl
theorem w_498 : (Jvm.Cond.code ({ cls := "RunForms", name := "plain", desc := "(I)I" } : Jvm.MethodName) prog_1_method_11_code (2 : Nat) (Option.some Jvm.ClassFile.FieldType.int)) ∈ jT := jT_in 498 (by decide +kernel) rfl
theorem w_499 : (Jvm.Cond.methodLink "RunForms" (103 : Nat) ({ cls := "RunForms$Plain", name := "fill", desc := "(I)I" } : Jvm.MethodName)) ∈ jT := jT_in 499 (by decide +kernel) rfl
theorem w_500 : (Jvm.Cond.instanceMethod ({ cls := "RunForms$Plain", name := "fill", desc := "(I)I" } : Jvm.MethodName)) ∈ jT := jT_in 500 (by decide +kernel) rfl
theorem w_501 : (Jvm.Cond.selects "RunForms$Plain" ({ cls := "RunForms$Plain", name := "fill", desc := "(I)I" } : Jvm.MethodName) ({ cls := "RunForms$Plain", name := "fill", desc := "(I)I" } : Jvm.MethodName)) ∈ jT := jT_in 501 (by decide +kernel) rfl
theorem w_502 : (Jvm.Cond.code ({ cls := "RunForms$Plain", name := "fill", desc := "(I)I" } : Jvm.MethodName) prog_5_method_2_code (3 : Nat) (Option.some Jvm.ClassFile.FieldType.int)) ∈ jT := jT_in 502 (by decide +kernel) rfl
theorem w_503 : (Jvm.Cond.methodLink "RunForms$Plain" (30 : Nat) ({ cls := "java/util/Arrays", name := "fill", desc := "([BB)V" } : Jvm.MethodName)) ∈ jT := jT_in 503 (by decide +kernel) rfl
theorem w_504 : (Jvm.Cond.methodLink "RunForms$Plain" (36 : Nat) ({ cls := "java/lang/Math", name := "min", desc := "(II)I" } : Jvm.MethodName)) ∈ jT := jT_in 504 (by decide +kernel) rfl
theorem w_505 : (Jvm.Cond.methodLink "RunForms$Plain" (42 : Nat) ({ cls := "java/lang/Math", name := "max", desc := "(II)I" } : Jvm.MethodName)) ∈ jT := jT_in 505 (by decide +kernel) rfl
theorem w_506 : (Jvm.Cond.methodLink "RunForms$Plain" (58 : Nat) ({ cls := "RunForms$Plain", name := "copiesPiece", desc := "()Z" } : Jvm.MethodName)) ∈ jT := jT_in 506 (by decide +kernel) rfl
theorem w_507 : (Jvm.Cond.instanceMethod ({ cls := "RunForms$Plain", name := "copiesPiece", desc := "()Z" } : Jvm.MethodName)) ∈ jT := jT_in 507 (by decide +kernel) rfl
theorem w_508 : (Jvm.Cond.selects "RunForms$Plain" ({ cls := "RunForms$Plain", name := "copiesPiece", desc := "()Z" } : Jvm.MethodName) ({ cls := "RunForms$Plain", name := "copiesPiece", desc := "()Z" } : Jvm.MethodName)) ∈ jT := jT_in 508 (by decide +kernel) rfl
theorem w_509 : (Jvm.Cond.code ({ cls := "RunForms$Plain", name := "copiesPiece", desc := "()Z" } : Jvm.MethodName) prog_5_method_3_code (1 : Nat) (Option.some Jvm.ClassFile.FieldType.boolean)) ∈ jT := jT_in 509 (by decide +kernel) rfl
theorem w_510 : (Jvm.Cond.methodLink "RunForms$Plain" (67 : Nat) ({ cls := "RunForms$Plain", name := "copiesMarked", desc := "()Z" } : Jvm.MethodName)) ∈ jT := jT_in 510 (by decide +kernel) rfl
theorem w_511 : (Jvm.Cond.instanceMethod ({ cls := "RunForms$Plain", name := "copiesMarked", desc := "()Z" } : Jvm.MethodName)) ∈ jT := jT_in 511 (by decide +kernel) rfl
theorem w_512 : (Jvm.Cond.selects "RunForms$Plain" ({ cls := "RunForms$Plain", name := "copiesMarked", desc := "()Z" } : Jvm.MethodName) ({ cls := "RunForms$Plain", name := "copiesMarked", desc := "()Z" } : Jvm.MethodName)) ∈ jT := jT_in 512 (by decide +kernel) rfl
theorem w_513 : (Jvm.Cond.code ({ cls := "RunForms$Plain", name := "copiesMarked", desc := "()Z" } : Jvm.MethodName) prog_5_method_4_code (3 : Nat) (Option.some Jvm.ClassFile.FieldType.boolean)) ∈ jT := jT_in 513 (by decide +kernel) rfl
theorem w_514 : (Jvm.Cond.methodLink "RunForms$Plain" (82 : Nat) ({ cls := "RunForms$Octets", name := "get", desc := "(I)I" } : Jvm.MethodName)) ∈ jT := jT_in 514 (by decide +kernel) rfl
theorem w_515 : (Jvm.Cond.methodLink "RunForms$Plain" (89 : Nat) ({ cls := "RunForms$Plain", name := "copiesTimes", desc := "(III)Z" } : Jvm.MethodName)) ∈ jT := jT_in 515 (by decide +kernel) rfl
theorem w_516 : (Jvm.Cond.instanceMethod ({ cls := "RunForms$Plain", name := "copiesTimes", desc := "(III)Z" } : Jvm.MethodName)) ∈ jT := jT_in 516 (by decide +kernel) rfl
theorem w_517 : (Jvm.Cond.selects "RunForms$Plain" ({ cls := "RunForms$Plain", name := "copiesTimes", desc := "(III)Z" } : Jvm.MethodName) ({ cls := "RunForms$Plain", name := "copiesTimes", desc := "(III)Z" } : Jvm.MethodName)) ∈ jT := jT_in 517 (by decide +kernel) rfl
theorem w_518 : (Jvm.Cond.code ({ cls := "RunForms$Plain", name := "copiesTimes", desc := "(III)Z" } : Jvm.MethodName) prog_5_method_8_code (5 : Nat) (Option.some Jvm.ClassFile.FieldType.boolean)) ∈ jT := jT_in 518 (by decide +kernel) rfl
theorem w_519 : (Jvm.Cond.methodLink "RunForms$Plain" (96 : Nat) ({ cls := "RunForms$Plain", name := "copies", desc := "(II)Z" } : Jvm.MethodName)) ∈ jT := jT_in 519 (by decide +kernel) rfl
theorem w_520 : (Jvm.Cond.instanceMethod ({ cls := "RunForms$Plain", name := "copies", desc := "(II)Z" } : Jvm.MethodName)) ∈ jT := jT_in 520 (by decide +kernel) rfl
theorem w_521 : (Jvm.Cond.selects "RunForms$Plain" ({ cls := "RunForms$Plain", name := "copies", desc := "(II)Z" } : Jvm.MethodName) ({ cls := "RunForms$Plain", name := "copies", desc := "(II)Z" } : Jvm.MethodName)) ∈ jT := jT_in 521 (by decide +kernel) rfl
theorem w_522 : (Jvm.Cond.code ({ cls := "RunForms$Plain", name := "copies", desc := "(II)Z" } : Jvm.MethodName) prog_5_method_9_code (4 : Nat) (Option.some Jvm.ClassFile.FieldType.boolean)) ∈ jT := jT_in 522 (by decide +kernel) rfl
theorem w_523 : (Jvm.Cond.methodLink "RunForms$Plain" (104 : Nat) ({ cls := "java/lang/System", name := "arraycopy", desc := "(Ljava/lang/Object;ILjava/lang/Object;II)V" } : Jvm.MethodName)) ∈ jT := jT_in 523 (by decide +kernel) rfl
theorem w_524 : (Jvm.Cond.methodLink "RunForms$Plain" (70 : Nat) ({ cls := "RunForms$Plain", name := "copiesSigned", desc := "()Z" } : Jvm.MethodName)) ∈ jT := jT_in 524 (by decide +kernel) rfl
theorem w_525 : (Jvm.Cond.instanceMethod ({ cls := "RunForms$Plain", name := "copiesSigned", desc := "()Z" } : Jvm.MethodName)) ∈ jT := jT_in 525 (by decide +kernel) rfl
theorem w_526 : (Jvm.Cond.selects "RunForms$Plain" ({ cls := "RunForms$Plain", name := "copiesSigned", desc := "()Z" } : Jvm.MethodName) ({ cls := "RunForms$Plain", name := "copiesSigned", desc := "()Z" } : Jvm.MethodName)) ∈ jT := jT_in 526 (by decide +kernel) rfl
theorem w_527 : (Jvm.Cond.code ({ cls := "RunForms$Plain", name := "copiesSigned", desc := "()Z" } : Jvm.MethodName) prog_5_method_5_code (3 : Nat) (Option.some Jvm.ClassFile.FieldType.boolean)) ∈ jT := jT_in 527 (by decide +kernel) rfl
theorem w_528 : (Jvm.Cond.methodLink "RunForms$Plain" (73 : Nat) ({ cls := "RunForms$Plain", name := "copiesRows", desc := "()Z" } : Jvm.MethodName)) ∈ jT := jT_in 528 (by decide +kernel) rfl
theorem w_529 : (Jvm.Cond.instanceMethod ({ cls := "RunForms$Plain", name := "copiesRows", desc := "()Z" } : Jvm.MethodName)) ∈ jT := jT_in 529 (by decide +kernel) rfl
theorem w_530 : (Jvm.Cond.selects "RunForms$Plain" ({ cls := "RunForms$Plain", name := "copiesRows", desc := "()Z" } : Jvm.MethodName) ({ cls := "RunForms$Plain", name := "copiesRows", desc := "()Z" } : Jvm.MethodName)) ∈ jT := jT_in 530 (by decide +kernel) rfl
theorem w_531 : (Jvm.Cond.code ({ cls := "RunForms$Plain", name := "copiesRows", desc := "()Z" } : Jvm.MethodName) prog_5_method_6_code (4 : Nat) (Option.some Jvm.ClassFile.FieldType.boolean)) ∈ jT := jT_in 531 (by decide +kernel) rfl
theorem w_532 : (Jvm.Cond.methodLink "RunForms$Plain" (93 : Nat) ({ cls := "RunForms$Plain", name := "goesOn", desc := "()Z" } : Jvm.MethodName)) ∈ jT := jT_in 532 (by decide +kernel) rfl
theorem w_533 : (Jvm.Cond.instanceMethod ({ cls := "RunForms$Plain", name := "goesOn", desc := "()Z" } : Jvm.MethodName)) ∈ jT := jT_in 533 (by decide +kernel) rfl
theorem w_534 : (Jvm.Cond.selects "RunForms$Plain" ({ cls := "RunForms$Plain", name := "goesOn", desc := "()Z" } : Jvm.MethodName) ({ cls := "RunForms$Plain", name := "goesOn", desc := "()Z" } : Jvm.MethodName)) ∈ jT := jT_in 534 (by decide +kernel) rfl
theorem w_535 : (Jvm.Cond.code ({ cls := "RunForms$Plain", name := "goesOn", desc := "()Z" } : Jvm.MethodName) prog_5_method_7_code (1 : Nat) (Option.some Jvm.ClassFile.FieldType.boolean)) ∈ jT := jT_in 535 (by decide +kernel) rfl
theorem w_539 : (Jvm.Cond.code ({ cls := "RunForms", name := "at", desc := "(II)I" } : Jvm.MethodName) prog_1_method_13_code (4 : Nat) (Option.some Jvm.ClassFile.FieldType.int)) ∈ jT := jT_in 539 (by decide +kernel) rfl
theorem w_540 : (Jvm.Cond.methodLink "RunForms" (118 : Nat) ({ cls := "RunForms$Octets", name := "get", desc := "(I)I" } : Jvm.MethodName)) ∈ jT := jT_in 540 (by decide +kernel) rfl
theorem w_544 : (Jvm.Cond.code ({ cls := "RunForms", name := "unit", desc := "(I)J" } : Jvm.MethodName) prog_1_method_14_code (2 : Nat) (Option.some Jvm.ClassFile.FieldType.long)) ∈ jT := jT_in 544 (by decide +kernel) rfl
theorem w_545 : (Jvm.Cond.methodLink "RunForms" (121 : Nat) ({ cls := "RunForms$Rules", name := "unitsIn", desc := "(I)I" } : Jvm.MethodName)) ∈ jT := jT_in 545 (by decide +kernel) rfl
theorem w_546 : (Jvm.Cond.constantLong "RunForms" (124 : Nat) (-1 : Int64)) ∈ jT := jT_in 546 (by decide +kernel) rfl
theorem w_547 : (Jvm.Cond.methodLink "RunForms" (126 : Nat) ({ cls := "RunForms$Rules", name := "numberAt", desc := "(LRunForms$Octets;I)I" } : Jvm.MethodName)) ∈ jT := jT_in 547 (by decide +kernel) rfl
theorem w_548 : (Jvm.Cond.constantLong "RunForms" (129 : Nat) (4294967295 : Int64)) ∈ jT := jT_in 548 (by decide +kernel) rfl
theorem w_552 : (Jvm.Cond.code ({ cls := "RunForms", name := "bound", desc := "(I)I" } : Jvm.MethodName) prog_1_method_15_code (3 : Nat) (Option.some Jvm.ClassFile.FieldType.int)) ∈ jT := jT_in 552 (by decide +kernel) rfl
theorem w_553 : (Jvm.Cond.methodLink "RunForms" (135 : Nat) ({ cls := "RunForms$Rules", name := "rowsIn", desc := "(I)I" } : Jvm.MethodName)) ∈ jT := jT_in 553 (by decide +kernel) rfl
theorem w_554 : (Jvm.Cond.instanceMethod ({ cls := "RunForms$Rules", name := "rowsIn", desc := "(I)I" } : Jvm.MethodName)) ∈ jT := jT_in 554 (by decide +kernel) rfl
theorem w_555 : (Jvm.Cond.selects "RunForms$Rules" ({ cls := "RunForms$Rules", name := "rowsIn", desc := "(I)I" } : Jvm.MethodName) ({ cls := "RunForms$Rules", name := "rowsIn", desc := "(I)I" } : Jvm.MethodName)) ∈ jT := jT_in 555 (by decide +kernel) rfl
theorem w_556 : (Jvm.Cond.code ({ cls := "RunForms$Rules", name := "rowsIn", desc := "(I)I" } : Jvm.MethodName) prog_6_method_6_code (2 : Nat) (Option.some Jvm.ClassFile.FieldType.int)) ∈ jT := jT_in 556 (by decide +kernel) rfl
theorem w_557 : (Jvm.Cond.methodLink "RunForms" (138 : Nat) ({ cls := "RunForms", name := "rowBound", desc := "()I" } : Jvm.MethodName)) ∈ jT := jT_in 557 (by decide +kernel) rfl
theorem w_559 : (Jvm.Cond.instanceMethod ({ cls := "RunForms", name := "rowBound", desc := "()I" } : Jvm.MethodName)) ∈ jT := jT_in 559 (by decide +kernel) rfl
theorem w_560 : (Jvm.Cond.code ({ cls := "RunForms", name := "rowBound", desc := "()I" } : Jvm.MethodName) prog_1_method_20_code (3 : Nat) (Option.some Jvm.ClassFile.FieldType.int)) ∈ jT := jT_in 560 (by decide +kernel) rfl
theorem w_561 : (Jvm.Cond.methodLink "RunForms" (154 : Nat) ({ cls := "java/lang/Math", name := "min", desc := "(II)I" } : Jvm.MethodName)) ∈ jT := jT_in 561 (by decide +kernel) rfl
theorem w_565 : (Jvm.Cond.code ({ cls := "RunForms", name := "told", desc := "(I)I" } : Jvm.MethodName) prog_1_method_16_code (2 : Nat) (Option.some Jvm.ClassFile.FieldType.int)) ∈ jT := jT_in 565 (by decide +kernel) rfl
theorem w_658 : (Jvm.Cond.methodLink "RunFormsModel" (39 : Nat) ({ cls := "RunFormsModel", name := "in", desc := "(III)Z" } : Jvm.MethodName)) ∈ jT := jT_in 658 (by decide +kernel) rfl
theorem w_659 : (Jvm.Cond.static ({ cls := "RunFormsModel", name := "in", desc := "(III)Z" } : Jvm.MethodName)) ∈ jT := jT_in 659 (by decide +kernel) rfl
theorem w_660 : (Jvm.Cond.code ({ cls := "RunFormsModel", name := "in", desc := "(III)Z" } : Jvm.MethodName) prog_8_method_3_code (3 : Nat) (Option.some Jvm.ClassFile.FieldType.boolean)) ∈ jT := jT_in 660 (by decide +kernel) rfl
theorem w_661 : (Jvm.Cond.fieldLink "RunFormsModel" (43 : Nat) "RunFormsModel" "form" "I") ∈ jT := jT_in 661 (by decide +kernel) rfl
theorem w_662 : (Jvm.Cond.fieldLink "RunFormsModel" (7 : Nat) "RunFormsModel" "unit" "I") ∈ jT := jT_in 662 (by decide +kernel) rfl
theorem w_663 : (Jvm.Cond.fieldLink "RunFormsModel" (13 : Nat) "RunFormsModel" "width" "I") ∈ jT := jT_in 663 (by decide +kernel) rfl
theorem w_664 : (Jvm.Cond.fieldLink "RunFormsModel" (55 : Nat) "RunFormsModel" "mark" "I") ∈ jT := jT_in 664 (by decide +kernel) rfl
theorem w_665 : (Jvm.Cond.fieldLink "RunFormsModel" (58 : Nat) "RunFormsModel" "differences" "I") ∈ jT := jT_in 665 (by decide +kernel) rfl
theorem w_666 : (Jvm.Cond.fieldLink "RunFormsModel" (16 : Nat) "RunFormsModel" "source" "[I") ∈ jT := jT_in 666 (by decide +kernel) rfl
theorem w_667 : (Jvm.Cond.fieldLink "RunFormsModel" (49 : Nat) "RunFormsModel" "sourceSize" "I") ∈ jT := jT_in 667 (by decide +kernel) rfl
theorem w_668 : (Jvm.Cond.fieldLink "RunFormsModel" (20 : Nat) "RunFormsModel" "code" "[I") ∈ jT := jT_in 668 (by decide +kernel) rfl
theorem w_669 : (Jvm.Cond.fieldLink "RunFormsModel" (52 : Nat) "RunFormsModel" "codeSize" "I") ∈ jT := jT_in 669 (by decide +kernel) rfl
theorem w_670 : (Jvm.Cond.fieldLink "RunFormsModel" (23 : Nat) "RunFormsModel" "plain" "[I") ∈ jT := jT_in 670 (by decide +kernel) rfl
theorem w_671 : (Jvm.Cond.fieldLink "RunFormsModel" (203 : Nat) "RunFormsModel" "plainSize" "I") ∈ jT := jT_in 671 (by decide +kernel) rfl
theorem w_672 : (Jvm.Cond.fieldLink "RunFormsModel" (206 : Nat) "RunFormsModel" "put" "I") ∈ jT := jT_in 672 (by decide +kernel) rfl
theorem w_673 : (Jvm.Cond.fieldLink "RunFormsModel" (149 : Nat) "RunFormsModel" "fault" "I") ∈ jT := jT_in 673 (by decide +kernel) rfl
theorem w_674 : (Jvm.Cond.fieldLink "RunFormsModel" (46 : Nat) "RunFormsModel" "thrown" "I") ∈ jT := jT_in 674 (by decide +kernel) rfl
theorem w_675 : (Jvm.Cond.fieldLink "RunFormsModel" (26 : Nat) "RunFormsModel" "value" "[J") ∈ jT := jT_in 675 (by decide +kernel) rfl
theorem w_676 : (Jvm.Cond.fieldLink "RunFormsModel" (61 : Nat) "RunFormsModel" "many" "I") ∈ jT := jT_in 676 (by decide +kernel) rfl
theorem w_677 : (Jvm.Cond.fieldLink "RunFormsModel" (30 : Nat) "RunFormsModel" "cost" "[I") ∈ jT := jT_in 677 (by decide +kernel) rfl
theorem w_678 : (Jvm.Cond.fieldLink "RunFormsModel" (33 : Nat) "RunFormsModel" "packed" "[I") ∈ jT := jT_in 678 (by decide +kernel) rfl
theorem w_679 : (Jvm.Cond.fieldLink "RunFormsModel" (72 : Nat) "RunFormsModel" "packedSize" "I") ∈ jT := jT_in 679 (by decide +kernel) rfl
theorem w_680 : (Jvm.Cond.fieldLink "RunFormsModel" (36 : Nat) "RunFormsModel" "opened" "[I") ∈ jT := jT_in 680 (by decide +kernel) rfl
theorem w_681 : (Jvm.Cond.fieldLink "RunFormsModel" (152 : Nat) "RunFormsModel" "openedSize" "I") ∈ jT := jT_in 681 (by decide +kernel) rfl
theorem w_682 : (Jvm.Cond.fieldLink "RunFormsModel" (155 : Nat) "RunFormsModel" "p" "I") ∈ jT := jT_in 682 (by decide +kernel) rfl
theorem w_683 : (Jvm.Cond.fieldLink "RunFormsModel" (158 : Nat) "RunFormsModel" "x" "I") ∈ jT := jT_in 683 (by decide +kernel) rfl
theorem w_684 : (Jvm.Cond.fieldLink "RunFormsModel" (161 : Nat) "RunFormsModel" "y" "I") ∈ jT := jT_in 684 (by decide +kernel) rfl
theorem w_685 : (Jvm.Cond.fieldLink "RunFormsModel" (164 : Nat) "RunFormsModel" "ended" "Z") ∈ jT := jT_in 685 (by decide +kernel) rfl
theorem w_741 : (Jvm.Cond.code ({ cls := "RunFormsModel", name := "thrown", desc := "()I" } : Jvm.MethodName) prog_8_method_2_code (1 : Nat) (Option.some Jvm.ClassFile.FieldType.int)) ∈ jT := jT_in 741 (by decide +kernel) rfl
theorem w_745 : (Jvm.Cond.code ({ cls := "RunFormsModel", name := "octet", desc := "(I)I" } : Jvm.MethodName) prog_8_method_4_code (2 : Nat) (Option.some Jvm.ClassFile.FieldType.int)) ∈ jT := jT_in 745 (by decide +kernel) rfl
theorem w_749 : (Jvm.Cond.code ({ cls := "RunFormsModel", name := "repeat", desc := "(II)I" } : Jvm.MethodName) prog_8_method_5_code (4 : Nat) (Option.some Jvm.ClassFile.FieldType.int)) ∈ jT := jT_in 749 (by decide +kernel) rfl
theorem w_753 : (Jvm.Cond.code ({ cls := "RunFormsModel", name := "code", desc := "(I)I" } : Jvm.MethodName) prog_8_method_6_code (2 : Nat) (Option.some Jvm.ClassFile.FieldType.int)) ∈ jT := jT_in 753 (by decide +kernel) rfl
theorem w_757 : (Jvm.Cond.code ({ cls := "RunFormsModel", name := "cut", desc := "(II)I" } : Jvm.MethodName) prog_8_method_7_code (4 : Nat) (Option.some Jvm.ClassFile.FieldType.int)) ∈ jT := jT_in 757 (by decide +kernel) rfl
theorem w_761 : (Jvm.Cond.code ({ cls := "RunFormsModel", name := "rule", desc := "(II)I" } : Jvm.MethodName) prog_8_method_8_code (5 : Nat) (Option.some Jvm.ClassFile.FieldType.int)) ∈ jT := jT_in 761 (by decide +kernel) rfl
theorem w_765 : (Jvm.Cond.code ({ cls := "RunFormsModel", name := "pack", desc := "(I)I" } : Jvm.MethodName) prog_8_method_31_code (4 : Nat) (Option.some Jvm.ClassFile.FieldType.int)) ∈ jT := jT_in 765 (by decide +kernel) rfl
theorem w_766 : (Jvm.Cond.methodLink "RunFormsModel" (140 : Nat) ({ cls := "RunFormsModel", name := "size", desc := "(I)I" } : Jvm.MethodName)) ∈ jT := jT_in 766 (by decide +kernel) rfl
theorem w_767 : (Jvm.Cond.instanceMethod ({ cls := "RunFormsModel", name := "size", desc := "(I)I" } : Jvm.MethodName)) ∈ jT := jT_in 767 (by decide +kernel) rfl
theorem w_768 : (Jvm.Cond.selects "RunFormsModel" ({ cls := "RunFormsModel", name := "size", desc := "(I)I" } : Jvm.MethodName) ({ cls := "RunFormsModel", name := "size", desc := "(I)I" } : Jvm.MethodName)) ∈ jT := jT_in 768 (by decide +kernel) rfl
theorem w_769 : (Jvm.Cond.code ({ cls := "RunFormsModel", name := "size", desc := "(I)I" } : Jvm.MethodName) prog_8_method_32_code (2 : Nat) (Option.some Jvm.ClassFile.FieldType.int)) ∈ jT := jT_in 769 (by decide +kernel) rfl
theorem w_770 : (Jvm.Cond.methodLink "RunFormsModel" (143 : Nat) ({ cls := "RunFormsModel", name := "isWhole", desc := "(I)Z" } : Jvm.MethodName)) ∈ jT := jT_in 770 (by decide +kernel) rfl
theorem w_772 : (Jvm.Cond.instanceMethod ({ cls := "RunFormsModel", name := "isWhole", desc := "(I)Z" } : Jvm.MethodName)) ∈ jT := jT_in 772 (by decide +kernel) rfl
theorem w_773 : (Jvm.Cond.code ({ cls := "RunFormsModel", name := "isWhole", desc := "(I)Z" } : Jvm.MethodName) prog_8_method_30_code (2 : Nat) (Option.some Jvm.ClassFile.FieldType.boolean)) ∈ jT := jT_in 773 (by decide +kernel) rfl
theorem w_774 : (Jvm.Cond.methodLink "RunFormsModel" (146 : Nat) ({ cls := "RunFormsModel", name := "packAll", desc := "(I)V" } : Jvm.MethodName)) ∈ jT := jT_in 774 (by decide +kernel) rfl
theorem w_776 : (Jvm.Cond.instanceMethod ({ cls := "RunFormsModel", name := "packAll", desc := "(I)V" } : Jvm.MethodName)) ∈ jT := jT_in 776 (by decide +kernel) rfl
theorem w_777 : (Jvm.Cond.code ({ cls := "RunFormsModel", name := "packAll", desc := "(I)V" } : Jvm.MethodName) prog_8_method_28_code (3 : Nat) (Option.none : Option Jvm.ClassFile.FieldType)) ∈ jT := jT_in 777 (by decide +kernel) rfl
theorem w_778 : (Jvm.Cond.methodLink "RunFormsModel" (127 : Nat) ({ cls := "RunFormsModel", name := "takeUnits", desc := "()V" } : Jvm.MethodName)) ∈ jT := jT_in 778 (by decide +kernel) rfl
theorem w_780 : (Jvm.Cond.instanceMethod ({ cls := "RunFormsModel", name := "takeUnits", desc := "()V" } : Jvm.MethodName)) ∈ jT := jT_in 780 (by decide +kernel) rfl
theorem w_781 : (Jvm.Cond.code ({ cls := "RunFormsModel", name := "takeUnits", desc := "()V" } : Jvm.MethodName) prog_8_method_11_code (2 : Nat) (Option.none : Option Jvm.ClassFile.FieldType)) ∈ jT := jT_in 781 (by decide +kernel) rfl
theorem w_782 : (Jvm.Cond.methodLink "RunFormsModel" (64 : Nat) ({ cls := "RunFormsModel", name := "unitOf", desc := "(I)J" } : Jvm.MethodName)) ∈ jT := jT_in 782 (by decide +kernel) rfl
theorem w_784 : (Jvm.Cond.instanceMethod ({ cls := "RunFormsModel", name := "unitOf", desc := "(I)J" } : Jvm.MethodName)) ∈ jT := jT_in 784 (by decide +kernel) rfl
theorem w_785 : (Jvm.Cond.code ({ cls := "RunFormsModel", name := "unitOf", desc := "(I)J" } : Jvm.MethodName) prog_8_method_9_code (5 : Nat) (Option.some Jvm.ClassFile.FieldType.long)) ∈ jT := jT_in 785 (by decide +kernel) rfl
theorem w_786 : (Jvm.Cond.methodLink "RunFormsModel" (68 : Nat) ({ cls := "RunFormsModel", name := "all", desc := "()J" } : Jvm.MethodName)) ∈ jT := jT_in 786 (by decide +kernel) rfl
theorem w_788 : (Jvm.Cond.instanceMethod ({ cls := "RunFormsModel", name := "all", desc := "()J" } : Jvm.MethodName)) ∈ jT := jT_in 788 (by decide +kernel) rfl
theorem w_789 : (Jvm.Cond.code ({ cls := "RunFormsModel", name := "all", desc := "()J" } : Jvm.MethodName) prog_8_method_10_code (1 : Nat) (Option.some Jvm.ClassFile.FieldType.long)) ∈ jT := jT_in 789 (by decide +kernel) rfl
theorem w_790 : (Jvm.Cond.methodLink "RunFormsModel" (130 : Nat) ({ cls := "RunFormsModel", name := "part", desc := "(III)V" } : Jvm.MethodName)) ∈ jT := jT_in 790 (by decide +kernel) rfl
theorem w_792 : (Jvm.Cond.instanceMethod ({ cls := "RunFormsModel", name := "part", desc := "(III)V" } : Jvm.MethodName)) ∈ jT := jT_in 792 (by decide +kernel) rfl
theorem w_793 : (Jvm.Cond.code ({ cls := "RunFormsModel", name := "part", desc := "(III)V" } : Jvm.MethodName) prog_8_method_29_code (4 : Nat) (Option.none : Option Jvm.ClassFile.FieldType)) ∈ jT := jT_in 793 (by decide +kernel) rfl
theorem w_794 : (Jvm.Cond.methodLink "RunFormsModel" (134 : Nat) ({ cls := "RunFormsModel", name := "greedy", desc := "(II)V" } : Jvm.MethodName)) ∈ jT := jT_in 794 (by decide +kernel) rfl
theorem w_796 : (Jvm.Cond.instanceMethod ({ cls := "RunFormsModel", name := "greedy", desc := "(II)V" } : Jvm.MethodName)) ∈ jT := jT_in 796 (by decide +kernel) rfl
theorem w_797 : (Jvm.Cond.code ({ cls := "RunFormsModel", name := "greedy", desc := "(II)V" } : Jvm.MethodName) prog_8_method_26_code (7 : Nat) (Option.none : Option Jvm.ClassFile.FieldType)) ∈ jT := jT_in 797 (by decide +kernel) rfl
theorem w_798 : (Jvm.Cond.methodLink "RunFormsModel" (87 : Nat) ({ cls := "RunFormsModel", name := "restOf", desc := "(II)I" } : Jvm.MethodName)) ∈ jT := jT_in 798 (by decide +kernel) rfl
theorem w_800 : (Jvm.Cond.instanceMethod ({ cls := "RunFormsModel", name := "restOf", desc := "(II)I" } : Jvm.MethodName)) ∈ jT := jT_in 800 (by decide +kernel) rfl
theorem w_801 : (Jvm.Cond.code ({ cls := "RunFormsModel", name := "restOf", desc := "(II)I" } : Jvm.MethodName) prog_8_method_22_code (4 : Nat) (Option.some Jvm.ClassFile.FieldType.int)) ∈ jT := jT_in 801 (by decide +kernel) rfl
theorem w_802 : (Jvm.Cond.methodLink "RunFormsModel" (100 : Nat) ({ cls := "RunFormsModel", name := "mostRun", desc := "()I" } : Jvm.MethodName)) ∈ jT := jT_in 802 (by decide +kernel) rfl
theorem w_804 : (Jvm.Cond.instanceMethod ({ cls := "RunFormsModel", name := "mostRun", desc := "()I" } : Jvm.MethodName)) ∈ jT := jT_in 804 (by decide +kernel) rfl
theorem w_805 : (Jvm.Cond.code ({ cls := "RunFormsModel", name := "mostRun", desc := "()I" } : Jvm.MethodName) prog_8_method_18_code (1 : Nat) (Option.some Jvm.ClassFile.FieldType.int)) ∈ jT := jT_in 805 (by decide +kernel) rfl
theorem w_806 : (Jvm.Cond.methodLink "RunFormsModel" (104 : Nat) ({ cls := "RunFormsModel", name := "likes", desc := "(III)I" } : Jvm.MethodName)) ∈ jT := jT_in 806 (by decide +kernel) rfl
theorem w_808 : (Jvm.Cond.instanceMethod ({ cls := "RunFormsModel", name := "likes", desc := "(III)I" } : Jvm.MethodName)) ∈ jT := jT_in 808 (by decide +kernel) rfl
theorem w_809 : (Jvm.Cond.code ({ cls := "RunFormsModel", name := "likes", desc := "(III)I" } : Jvm.MethodName) prog_8_method_15_code (5 : Nat) (Option.some Jvm.ClassFile.FieldType.int)) ∈ jT := jT_in 809 (by decide +kernel) rfl
theorem w_810 : (Jvm.Cond.methodLink "RunFormsModel" (83 : Nat) ({ cls := "RunFormsModel", name := "isMarked", desc := "(I)Z" } : Jvm.MethodName)) ∈ jT := jT_in 810 (by decide +kernel) rfl
theorem w_812 : (Jvm.Cond.instanceMethod ({ cls := "RunFormsModel", name := "isMarked", desc := "(I)Z" } : Jvm.MethodName)) ∈ jT := jT_in 812 (by decide +kernel) rfl
theorem w_813 : (Jvm.Cond.code ({ cls := "RunFormsModel", name := "isMarked", desc := "(I)Z" } : Jvm.MethodName) prog_8_method_14_code (2 : Nat) (Option.some Jvm.ClassFile.FieldType.boolean)) ∈ jT := jT_in 813 (by decide +kernel) rfl
theorem w_814 : (Jvm.Cond.methodLink "RunFormsModel" (121 : Nat) ({ cls := "RunFormsModel", name := "layRun", desc := "(II)V" } : Jvm.MethodName)) ∈ jT := jT_in 814 (by decide +kernel) rfl
theorem w_816 : (Jvm.Cond.instanceMethod ({ cls := "RunFormsModel", name := "layRun", desc := "(II)V" } : Jvm.MethodName)) ∈ jT := jT_in 816 (by decide +kernel) rfl
theorem w_817 : (Jvm.Cond.code ({ cls := "RunFormsModel", name := "layRun", desc := "(II)V" } : Jvm.MethodName) prog_8_method_16_code (3 : Nat) (Option.none : Option Jvm.ClassFile.FieldType)) ∈ jT := jT_in 817 (by decide +kernel) rfl
theorem w_818 : (Jvm.Cond.methodLink "RunFormsModel" (75 : Nat) ({ cls := "RunFormsModel", name := "lay", desc := "(I)V" } : Jvm.MethodName)) ∈ jT := jT_in 818 (by decide +kernel) rfl
theorem w_820 : (Jvm.Cond.instanceMethod ({ cls := "RunFormsModel", name := "lay", desc := "(I)V" } : Jvm.MethodName)) ∈ jT := jT_in 820 (by decide +kernel) rfl
theorem w_821 : (Jvm.Cond.code ({ cls := "RunFormsModel", name := "lay", desc := "(I)V" } : Jvm.MethodName) prog_8_method_12_code (2 : Nat) (Option.none : Option Jvm.ClassFile.FieldType)) ∈ jT := jT_in 821 (by decide +kernel) rfl
theorem w_822 : (Jvm.Cond.methodLink "RunFormsModel" (79 : Nat) ({ cls := "RunFormsModel", name := "layUnit", desc := "(J)V" } : Jvm.MethodName)) ∈ jT := jT_in 822 (by decide +kernel) rfl
theorem w_824 : (Jvm.Cond.instanceMethod ({ cls := "RunFormsModel", name := "layUnit", desc := "(J)V" } : Jvm.MethodName)) ∈ jT := jT_in 824 (by decide +kernel) rfl
theorem w_825 : (Jvm.Cond.code ({ cls := "RunFormsModel", name := "layUnit", desc := "(J)V" } : Jvm.MethodName) prog_8_method_13_code (4 : Nat) (Option.none : Option Jvm.ClassFile.FieldType)) ∈ jT := jT_in 825 (by decide +kernel) rfl
theorem w_826 : (Jvm.Cond.methodLink "RunFormsModel" (124 : Nat) ({ cls := "RunFormsModel", name := "greedyThemselves", desc := "(III)I" } : Jvm.MethodName)) ∈ jT := jT_in 826 (by decide +kernel) rfl
theorem w_828 : (Jvm.Cond.instanceMethod ({ cls := "RunFormsModel", name := "greedyThemselves", desc := "(III)I" } : Jvm.MethodName)) ∈ jT := jT_in 828 (by decide +kernel) rfl
theorem w_829 : (Jvm.Cond.code ({ cls := "RunFormsModel", name := "greedyThemselves", desc := "(III)I" } : Jvm.MethodName) prog_8_method_27_code (5 : Nat) (Option.some Jvm.ClassFile.FieldType.int)) ∈ jT := jT_in 829 (by decide +kernel) rfl
theorem w_830 : (Jvm.Cond.methodLink "RunFormsModel" (118 : Nat) ({ cls := "RunFormsModel", name := "layThemselves", desc := "(II)V" } : Jvm.MethodName)) ∈ jT := jT_in 830 (by decide +kernel) rfl
theorem w_832 : (Jvm.Cond.instanceMethod ({ cls := "RunFormsModel", name := "layThemselves", desc := "(II)V" } : Jvm.MethodName)) ∈ jT := jT_in 832 (by decide +kernel) rfl
theorem w_833 : (Jvm.Cond.code ({ cls := "RunFormsModel", name := "layThemselves", desc := "(II)V" } : Jvm.MethodName) prog_8_method_17_code (4 : Nat) (Option.none : Option Jvm.ClassFile.FieldType)) ∈ jT := jT_in 833 (by decide +kernel) rfl
theorem w_834 : (Jvm.Cond.methodLink "RunFormsModel" (137 : Nat) ({ cls := "RunFormsModel", name := "fewest", desc := "(II)V" } : Jvm.MethodName)) ∈ jT := jT_in 834 (by decide +kernel) rfl
theorem w_836 : (Jvm.Cond.instanceMethod ({ cls := "RunFormsModel", name := "fewest", desc := "(II)V" } : Jvm.MethodName)) ∈ jT := jT_in 836 (by decide +kernel) rfl
theorem w_837 : (Jvm.Cond.code ({ cls := "RunFormsModel", name := "fewest", desc := "(II)V" } : Jvm.MethodName) prog_8_method_24_code (6 : Nat) (Option.none : Option Jvm.ClassFile.FieldType)) ∈ jT := jT_in 837 (by decide +kernel) rfl
theorem w_838 : (Jvm.Cond.methodLink "RunFormsModel" (111 : Nat) ({ cls := "RunFormsModel", name := "reckon", desc := "(II)V" } : Jvm.MethodName)) ∈ jT := jT_in 838 (by decide +kernel) rfl
theorem w_840 : (Jvm.Cond.instanceMethod ({ cls := "RunFormsModel", name := "reckon", desc := "(II)V" } : Jvm.MethodName)) ∈ jT := jT_in 840 (by decide +kernel) rfl
theorem w_841 : (Jvm.Cond.code ({ cls := "RunFormsModel", name := "reckon", desc := "(II)V" } : Jvm.MethodName) prog_8_method_23_code (8 : Nat) (Option.none : Option Jvm.ClassFile.FieldType)) ∈ jT := jT_in 841 (by decide +kernel) rfl
theorem w_842 : (Jvm.Cond.constant "RunFormsModel" (91 : Nat) (1000000 : Int32)) ∈ jT := jT_in 842 (by decide +kernel) rfl
theorem w_843 : (Jvm.Cond.methodLink "RunFormsModel" (92 : Nat) ({ cls := "RunFormsModel", name := "mayStand", desc := "(II)Z" } : Jvm.MethodName)) ∈ jT := jT_in 843 (by decide +kernel) rfl
theorem w_845 : (Jvm.Cond.instanceMethod ({ cls := "RunFormsModel", name := "mayStand", desc := "(II)Z" } : Jvm.MethodName)) ∈ jT := jT_in 845 (by decide +kernel) rfl
theorem w_846 : (Jvm.Cond.code ({ cls := "RunFormsModel", name := "mayStand", desc := "(II)Z" } : Jvm.MethodName) prog_8_method_21_code (3 : Nat) (Option.some Jvm.ClassFile.FieldType.boolean)) ∈ jT := jT_in 846 (by decide +kernel) rfl
theorem w_847 : (Jvm.Cond.methodLink "RunFormsModel" (96 : Nat) ({ cls := "RunFormsModel", name := "selfCost", desc := "(I)I" } : Jvm.MethodName)) ∈ jT := jT_in 847 (by decide +kernel) rfl
theorem w_849 : (Jvm.Cond.instanceMethod ({ cls := "RunFormsModel", name := "selfCost", desc := "(I)I" } : Jvm.MethodName)) ∈ jT := jT_in 849 (by decide +kernel) rfl
theorem w_850 : (Jvm.Cond.code ({ cls := "RunFormsModel", name := "selfCost", desc := "(I)I" } : Jvm.MethodName) prog_8_method_20_code (2 : Nat) (Option.some Jvm.ClassFile.FieldType.int)) ∈ jT := jT_in 850 (by decide +kernel) rfl
theorem w_851 : (Jvm.Cond.methodLink "RunFormsModel" (108 : Nat) ({ cls := "RunFormsModel", name := "runCost", desc := "()I" } : Jvm.MethodName)) ∈ jT := jT_in 851 (by decide +kernel) rfl
theorem w_853 : (Jvm.Cond.instanceMethod ({ cls := "RunFormsModel", name := "runCost", desc := "()I" } : Jvm.MethodName)) ∈ jT := jT_in 853 (by decide +kernel) rfl
theorem w_854 : (Jvm.Cond.code ({ cls := "RunFormsModel", name := "runCost", desc := "()I" } : Jvm.MethodName) prog_8_method_19_code (1 : Nat) (Option.some Jvm.ClassFile.FieldType.int)) ∈ jT := jT_in 854 (by decide +kernel) rfl
theorem w_855 : (Jvm.Cond.methodLink "RunFormsModel" (115 : Nat) ({ cls := "RunFormsModel", name := "fewestAt", desc := "(II)I" } : Jvm.MethodName)) ∈ jT := jT_in 855 (by decide +kernel) rfl
theorem w_857 : (Jvm.Cond.instanceMethod ({ cls := "RunFormsModel", name := "fewestAt", desc := "(II)I" } : Jvm.MethodName)) ∈ jT := jT_in 857 (by decide +kernel) rfl
theorem w_858 : (Jvm.Cond.code ({ cls := "RunFormsModel", name := "fewestAt", desc := "(II)I" } : Jvm.MethodName) prog_8_method_25_code (4 : Nat) (Option.some Jvm.ClassFile.FieldType.int)) ∈ jT := jT_in 858 (by decide +kernel) rfl
theorem w_863 : (Jvm.Cond.code ({ cls := "RunFormsModel", name := "open", desc := "()I" } : Jvm.MethodName) prog_8_method_34_code (5 : Nat) (Option.some Jvm.ClassFile.FieldType.int)) ∈ jT := jT_in 863 (by decide +kernel) rfl
theorem w_864 : (Jvm.Cond.methodLink "RunFormsModel" (168 : Nat) ({ cls := "RunFormsModel", name := "openMarked", desc := "()I" } : Jvm.MethodName)) ∈ jT := jT_in 864 (by decide +kernel) rfl
theorem w_866 : (Jvm.Cond.instanceMethod ({ cls := "RunFormsModel", name := "openMarked", desc := "()I" } : Jvm.MethodName)) ∈ jT := jT_in 866 (by decide +kernel) rfl
theorem w_867 : (Jvm.Cond.code ({ cls := "RunFormsModel", name := "openMarked", desc := "()I" } : Jvm.MethodName) prog_8_method_36_code (4 : Nat) (Option.some Jvm.ClassFile.FieldType.int)) ∈ jT := jT_in 867 (by decide +kernel) rfl
theorem w_868 : (Jvm.Cond.methodLink "RunFormsModel" (177 : Nat) ({ cls := "RunFormsModel", name := "fails", desc := "(II)I" } : Jvm.MethodName)) ∈ jT := jT_in 868 (by decide +kernel) rfl
theorem w_870 : (Jvm.Cond.instanceMethod ({ cls := "RunFormsModel", name := "fails", desc := "(II)I" } : Jvm.MethodName)) ∈ jT := jT_in 870 (by decide +kernel) rfl
theorem w_871 : (Jvm.Cond.code ({ cls := "RunFormsModel", name := "fails", desc := "(II)I" } : Jvm.MethodName) prog_8_method_33_code (3 : Nat) (Option.some Jvm.ClassFile.FieldType.int)) ∈ jT := jT_in 871 (by decide +kernel) rfl
theorem w_872 : (Jvm.Cond.methodLink "RunFormsModel" (182 : Nat) ({ cls := "RunFormsModel", name := "puts", desc := "(III)I" } : Jvm.MethodName)) ∈ jT := jT_in 872 (by decide +kernel) rfl
theorem w_874 : (Jvm.Cond.instanceMethod ({ cls := "RunFormsModel", name := "puts", desc := "(III)I" } : Jvm.MethodName)) ∈ jT := jT_in 874 (by decide +kernel) rfl
theorem w_875 : (Jvm.Cond.code ({ cls := "RunFormsModel", name := "puts", desc := "(III)I" } : Jvm.MethodName) prog_8_method_35_code (6 : Nat) (Option.some Jvm.ClassFile.FieldType.int)) ∈ jT := jT_in 875 (by decide +kernel) rfl
theorem w_876 : (Jvm.Cond.methodLink "RunFormsModel" (171 : Nat) ({ cls := "RunFormsModel", name := "openSigned", desc := "()I" } : Jvm.MethodName)) ∈ jT := jT_in 876 (by decide +kernel) rfl
theorem w_878 : (Jvm.Cond.instanceMethod ({ cls := "RunFormsModel", name := "openSigned", desc := "()I" } : Jvm.MethodName)) ∈ jT := jT_in 878 (by decide +kernel) rfl
theorem w_879 : (Jvm.Cond.code ({ cls := "RunFormsModel", name := "openSigned", desc := "()I" } : Jvm.MethodName) prog_8_method_37_code (4 : Nat) (Option.some Jvm.ClassFile.FieldType.int)) ∈ jT := jT_in 879 (by decide +kernel) rfl
theorem w_880 : (Jvm.Cond.methodLink "RunFormsModel" (174 : Nat) ({ cls := "RunFormsModel", name := "openRows", desc := "()I" } : Jvm.MethodName)) ∈ jT := jT_in 880 (by decide +kernel) rfl
theorem w_882 : (Jvm.Cond.instanceMethod ({ cls := "RunFormsModel", name := "openRows", desc := "()I" } : Jvm.MethodName)) ∈ jT := jT_in 882 (by decide +kernel) rfl
theorem w_883 : (Jvm.Cond.code ({ cls := "RunFormsModel", name := "openRows", desc := "()I" } : Jvm.MethodName) prog_8_method_40_code (5 : Nat) (Option.some Jvm.ClassFile.FieldType.int)) ∈ jT := jT_in 883 (by decide +kernel) rfl
theorem w_884 : (Jvm.Cond.methodLink "RunFormsModel" (185 : Nat) ({ cls := "RunFormsModel", name := "rowFaults", desc := "(I)I" } : Jvm.MethodName)) ∈ jT := jT_in 884 (by decide +kernel) rfl
theorem w_886 : (Jvm.Cond.instanceMethod ({ cls := "RunFormsModel", name := "rowFaults", desc := "(I)I" } : Jvm.MethodName)) ∈ jT := jT_in 886 (by decide +kernel) rfl
theorem w_887 : (Jvm.Cond.code ({ cls := "RunFormsModel", name := "rowFaults", desc := "(I)I" } : Jvm.MethodName) prog_8_method_38_code (2 : Nat) (Option.some Jvm.ClassFile.FieldType.int)) ∈ jT := jT_in 887 (by decide +kernel) rfl
theorem w_888 : (Jvm.Cond.methodLink "RunFormsModel" (188 : Nat) ({ cls := "RunFormsModel", name := "rowIs", desc := "()V" } : Jvm.MethodName)) ∈ jT := jT_in 888 (by decide +kernel) rfl
theorem w_890 : (Jvm.Cond.instanceMethod ({ cls := "RunFormsModel", name := "rowIs", desc := "()V" } : Jvm.MethodName)) ∈ jT := jT_in 890 (by decide +kernel) rfl
theorem w_891 : (Jvm.Cond.code ({ cls := "RunFormsModel", name := "rowIs", desc := "()V" } : Jvm.MethodName) prog_8_method_39_code (1 : Nat) (Option.none : Option Jvm.ClassFile.FieldType)) ∈ jT := jT_in 891 (by decide +kernel) rfl
theorem w_892 : (Jvm.Cond.methodLink "RunFormsModel" (191 : Nat) ({ cls := "RunFormsModel", name := "endRow", desc := "()I" } : Jvm.MethodName)) ∈ jT := jT_in 892 (by decide +kernel) rfl
theorem w_894 : (Jvm.Cond.instanceMethod ({ cls := "RunFormsModel", name := "endRow", desc := "()I" } : Jvm.MethodName)) ∈ jT := jT_in 894 (by decide +kernel) rfl
theorem w_895 : (Jvm.Cond.code ({ cls := "RunFormsModel", name := "endRow", desc := "()I" } : Jvm.MethodName) prog_8_method_42_code (2 : Nat) (Option.some Jvm.ClassFile.FieldType.int)) ∈ jT := jT_in 895 (by decide +kernel) rfl
theorem w_896 : (Jvm.Cond.methodLink "RunFormsModel" (194 : Nat) ({ cls := "RunFormsModel", name := "endAll", desc := "()I" } : Jvm.MethodName)) ∈ jT := jT_in 896 (by decide +kernel) rfl
theorem w_898 : (Jvm.Cond.instanceMethod ({ cls := "RunFormsModel", name := "endAll", desc := "()I" } : Jvm.MethodName)) ∈ jT := jT_in 898 (by decide +kernel) rfl
theorem w_899 : (Jvm.Cond.code ({ cls := "RunFormsModel", name := "endAll", desc := "()I" } : Jvm.MethodName) prog_8_method_41_code (1 : Nat) (Option.some Jvm.ClassFile.FieldType.int)) ∈ jT := jT_in 899 (by decide +kernel) rfl
theorem w_900 : (Jvm.Cond.methodLink "RunFormsModel" (197 : Nat) ({ cls := "RunFormsModel", name := "goOn", desc := "()I" } : Jvm.MethodName)) ∈ jT := jT_in 900 (by decide +kernel) rfl
theorem w_902 : (Jvm.Cond.instanceMethod ({ cls := "RunFormsModel", name := "goOn", desc := "()I" } : Jvm.MethodName)) ∈ jT := jT_in 902 (by decide +kernel) rfl
theorem w_903 : (Jvm.Cond.code ({ cls := "RunFormsModel", name := "goOn", desc := "()I" } : Jvm.MethodName) prog_8_method_43_code (1 : Nat) (Option.some Jvm.ClassFile.FieldType.int)) ∈ jT := jT_in 903 (by decide +kernel) rfl
theorem w_904 : (Jvm.Cond.methodLink "RunFormsModel" (200 : Nat) ({ cls := "RunFormsModel", name := "bytes", desc := "(I)I" } : Jvm.MethodName)) ∈ jT := jT_in 904 (by decide +kernel) rfl
theorem w_906 : (Jvm.Cond.instanceMethod ({ cls := "RunFormsModel", name := "bytes", desc := "(I)I" } : Jvm.MethodName)) ∈ jT := jT_in 906 (by decide +kernel) rfl
theorem w_907 : (Jvm.Cond.code ({ cls := "RunFormsModel", name := "bytes", desc := "(I)I" } : Jvm.MethodName) prog_8_method_44_code (5 : Nat) (Option.some Jvm.ClassFile.FieldType.int)) ∈ jT := jT_in 907 (by decide +kernel) rfl
theorem w_908 : (Jvm.Cond.constantLong "RunFormsModel" (180 : Nat) (255 : Int64)) ∈ jT := jT_in 908 (by decide +kernel) rfl
theorem w_912 : (Jvm.Cond.code ({ cls := "RunFormsModel", name := "fault", desc := "()I" } : Jvm.MethodName) prog_8_method_45_code (1 : Nat) (Option.some Jvm.ClassFile.FieldType.int)) ∈ jT := jT_in 912 (by decide +kernel) rfl
theorem w_916 : (Jvm.Cond.code ({ cls := "RunFormsModel", name := "plain", desc := "(I)I" } : Jvm.MethodName) prog_8_method_47_code (3 : Nat) (Option.some Jvm.ClassFile.FieldType.int)) ∈ jT := jT_in 916 (by decide +kernel) rfl
theorem w_917 : (Jvm.Cond.methodLink "RunFormsModel" (209 : Nat) ({ cls := "RunFormsModel", name := "plainMarked", desc := "()Z" } : Jvm.MethodName)) ∈ jT := jT_in 917 (by decide +kernel) rfl
theorem w_919 : (Jvm.Cond.instanceMethod ({ cls := "RunFormsModel", name := "plainMarked", desc := "()Z" } : Jvm.MethodName)) ∈ jT := jT_in 919 (by decide +kernel) rfl
theorem w_920 : (Jvm.Cond.code ({ cls := "RunFormsModel", name := "plainMarked", desc := "()Z" } : Jvm.MethodName) prog_8_method_48_code (5 : Nat) (Option.some Jvm.ClassFile.FieldType.boolean)) ∈ jT := jT_in 920 (by decide +kernel) rfl
theorem w_921 : (Jvm.Cond.methodLink "RunFormsModel" (219 : Nat) ({ cls := "RunFormsModel", name := "copies", desc := "(III)Z" } : Jvm.MethodName)) ∈ jT := jT_in 921 (by decide +kernel) rfl
theorem w_923 : (Jvm.Cond.instanceMethod ({ cls := "RunFormsModel", name := "copies", desc := "(III)Z" } : Jvm.MethodName)) ∈ jT := jT_in 923 (by decide +kernel) rfl
theorem w_924 : (Jvm.Cond.code ({ cls := "RunFormsModel", name := "copies", desc := "(III)Z" } : Jvm.MethodName) prog_8_method_46_code (5 : Nat) (Option.some Jvm.ClassFile.FieldType.boolean)) ∈ jT := jT_in 924 (by decide +kernel) rfl
theorem w_925 : (Jvm.Cond.methodLink "RunFormsModel" (213 : Nat) ({ cls := "RunFormsModel", name := "plainSigned", desc := "()Z" } : Jvm.MethodName)) ∈ jT := jT_in 925 (by decide +kernel) rfl
theorem w_927 : (Jvm.Cond.instanceMethod ({ cls := "RunFormsModel", name := "plainSigned", desc := "()Z" } : Jvm.MethodName)) ∈ jT := jT_in 927 (by decide +kernel) rfl
theorem w_928 : (Jvm.Cond.code ({ cls := "RunFormsModel", name := "plainSigned", desc := "()Z" } : Jvm.MethodName) prog_8_method_49_code (5 : Nat) (Option.some Jvm.ClassFile.FieldType.boolean)) ∈ jT := jT_in 928 (by decide +kernel) rfl
theorem w_929 : (Jvm.Cond.methodLink "RunFormsModel" (216 : Nat) ({ cls := "RunFormsModel", name := "plainRows", desc := "()Z" } : Jvm.MethodName)) ∈ jT := jT_in 929 (by decide +kernel) rfl
theorem w_931 : (Jvm.Cond.instanceMethod ({ cls := "RunFormsModel", name := "plainRows", desc := "()Z" } : Jvm.MethodName)) ∈ jT := jT_in 931 (by decide +kernel) rfl
theorem w_932 : (Jvm.Cond.code ({ cls := "RunFormsModel", name := "plainRows", desc := "()Z" } : Jvm.MethodName) prog_8_method_50_code (8 : Nat) (Option.some Jvm.ClassFile.FieldType.boolean)) ∈ jT := jT_in 932 (by decide +kernel) rfl
theorem w_936 : (Jvm.Cond.code ({ cls := "RunFormsModel", name := "out", desc := "(I)I" } : Jvm.MethodName) prog_8_method_51_code (2 : Nat) (Option.some Jvm.ClassFile.FieldType.int)) ∈ jT := jT_in 936 (by decide +kernel) rfl
theorem w_940 : (Jvm.Cond.code ({ cls := "RunFormsModel", name := "at", desc := "(II)I" } : Jvm.MethodName) prog_8_method_52_code (3 : Nat) (Option.some Jvm.ClassFile.FieldType.int)) ∈ jT := jT_in 940 (by decide +kernel) rfl
theorem w_944 : (Jvm.Cond.code ({ cls := "RunFormsModel", name := "unit", desc := "(I)J" } : Jvm.MethodName) prog_8_method_53_code (2 : Nat) (Option.some Jvm.ClassFile.FieldType.long)) ∈ jT := jT_in 944 (by decide +kernel) rfl
theorem w_945 : (Jvm.Cond.constantLong "RunFormsModel" (222 : Nat) (-1 : Int64)) ∈ jT := jT_in 945 (by decide +kernel) rfl
theorem w_949 : (Jvm.Cond.code ({ cls := "RunFormsModel", name := "bound", desc := "(I)I" } : Jvm.MethodName) prog_8_method_54_code (4 : Nat) (Option.some Jvm.ClassFile.FieldType.int)) ∈ jT := jT_in 949 (by decide +kernel) rfl
theorem w_953 : (Jvm.Cond.code ({ cls := "RunFormsModel", name := "told", desc := "(I)I" } : Jvm.MethodName) prog_8_method_55_code (2 : Nat) (Option.some Jvm.ClassFile.FieldType.int)) ∈ jT := jT_in 953 (by decide +kernel) rfl
theorem ws_0 : Cond.selects "RunForms" ⟨"RunForms", "append", "(LRunForms$Octets;II)I"⟩ ⟨"RunForms", "append", "(LRunForms$Octets;II)I"⟩ ∈ jT := jT_sel (q := (⟨"RunForms", "append", "(LRunForms$Octets;II)I"⟩, 6)) 0 (by decide +kernel)
theorem ws_1 : Cond.selects "RunForms" ⟨"RunForms", "rowOf", "(I)LRunForms$Octets;"⟩ ⟨"RunForms", "rowOf", "(I)LRunForms$Octets;"⟩ ∈ jT := jT_sel (q := (⟨"RunForms", "rowOf", "(I)LRunForms$Octets;"⟩, 6)) 1 (by decide +kernel)
theorem ws_2 : Cond.selects "RunForms" ⟨"RunForms", "packRefusal", "(I)I"⟩ ⟨"RunForms", "packRefusal", "(I)I"⟩ ∈ jT := jT_sel (q := (⟨"RunForms", "packRefusal", "(I)I"⟩, 6)) 2 (by decide +kernel)
theorem ws_3 : Cond.selects "RunForms" ⟨"RunForms", "rowBound", "()I"⟩ ⟨"RunForms", "rowBound", "()I"⟩ ∈ jT := jT_sel (q := (⟨"RunForms", "rowBound", "()I"⟩, 6)) 3 (by decide +kernel)
theorem ws_5 : Cond.selects "RunFormsModel" ⟨"RunFormsModel", "isWhole", "(I)Z"⟩ ⟨"RunFormsModel", "isWhole", "(I)Z"⟩ ∈ jT := jT_sel (q := (⟨"RunFormsModel", "isWhole", "(I)Z"⟩, 25)) 5 (by decide +kernel)
theorem ws_6 : Cond.selects "RunFormsModel" ⟨"RunFormsModel", "packAll", "(I)V"⟩ ⟨"RunFormsModel", "packAll", "(I)V"⟩ ∈ jT := jT_sel (q := (⟨"RunFormsModel", "packAll", "(I)V"⟩, 25)) 6 (by decide +kernel)
theorem ws_7 : Cond.selects "RunFormsModel" ⟨"RunFormsModel", "takeUnits", "()V"⟩ ⟨"RunFormsModel", "takeUnits", "()V"⟩ ∈ jT := jT_sel (q := (⟨"RunFormsModel", "takeUnits", "()V"⟩, 25)) 7 (by decide +kernel)
theorem ws_8 : Cond.selects "RunFormsModel" ⟨"RunFormsModel", "unitOf", "(I)J"⟩ ⟨"RunFormsModel", "unitOf", "(I)J"⟩ ∈ jT := jT_sel (q := (⟨"RunFormsModel", "unitOf", "(I)J"⟩, 25)) 8 (by decide +kernel)
theorem ws_9 : Cond.selects "RunFormsModel" ⟨"RunFormsModel", "all", "()J"⟩ ⟨"RunFormsModel", "all", "()J"⟩ ∈ jT := jT_sel (q := (⟨"RunFormsModel", "all", "()J"⟩, 25)) 9 (by decide +kernel)
theorem ws_10 : Cond.selects "RunFormsModel" ⟨"RunFormsModel", "part", "(III)V"⟩ ⟨"RunFormsModel", "part", "(III)V"⟩ ∈ jT := jT_sel (q := (⟨"RunFormsModel", "part", "(III)V"⟩, 25)) 10 (by decide +kernel)
theorem ws_11 : Cond.selects "RunFormsModel" ⟨"RunFormsModel", "greedy", "(II)V"⟩ ⟨"RunFormsModel", "greedy", "(II)V"⟩ ∈ jT := jT_sel (q := (⟨"RunFormsModel", "greedy", "(II)V"⟩, 25)) 11 (by decide +kernel)
theorem ws_12 : Cond.selects "RunFormsModel" ⟨"RunFormsModel", "restOf", "(II)I"⟩ ⟨"RunFormsModel", "restOf", "(II)I"⟩ ∈ jT := jT_sel (q := (⟨"RunFormsModel", "restOf", "(II)I"⟩, 25)) 12 (by decide +kernel)
theorem ws_13 : Cond.selects "RunFormsModel" ⟨"RunFormsModel", "mostRun", "()I"⟩ ⟨"RunFormsModel", "mostRun", "()I"⟩ ∈ jT := jT_sel (q := (⟨"RunFormsModel", "mostRun", "()I"⟩, 25)) 13 (by decide +kernel)
theorem ws_14 : Cond.selects "RunFormsModel" ⟨"RunFormsModel", "likes", "(III)I"⟩ ⟨"RunFormsModel", "likes", "(III)I"⟩ ∈ jT := jT_sel (q := (⟨"RunFormsModel", "likes", "(III)I"⟩, 25)) 14 (by decide +kernel)
theorem ws_15 : Cond.selects "RunFormsModel" ⟨"RunFormsModel", "isMarked", "(I)Z"⟩ ⟨"RunFormsModel", "isMarked", "(I)Z"⟩ ∈ jT := jT_sel (q := (⟨"RunFormsModel", "isMarked", "(I)Z"⟩, 25)) 15 (by decide +kernel)
theorem ws_16 : Cond.selects "RunFormsModel" ⟨"RunFormsModel", "layRun", "(II)V"⟩ ⟨"RunFormsModel", "layRun", "(II)V"⟩ ∈ jT := jT_sel (q := (⟨"RunFormsModel", "layRun", "(II)V"⟩, 25)) 16 (by decide +kernel)
theorem ws_17 : Cond.selects "RunFormsModel" ⟨"RunFormsModel", "lay", "(I)V"⟩ ⟨"RunFormsModel", "lay", "(I)V"⟩ ∈ jT := jT_sel (q := (⟨"RunFormsModel", "lay", "(I)V"⟩, 25)) 17 (by decide +kernel)
theorem ws_18 : Cond.selects "RunFormsModel" ⟨"RunFormsModel", "layUnit", "(J)V"⟩ ⟨"RunFormsModel", "layUnit", "(J)V"⟩ ∈ jT := jT_sel (q := (⟨"RunFormsModel", "layUnit", "(J)V"⟩, 25)) 18 (by decide +kernel)
theorem ws_19 : Cond.selects "RunFormsModel" ⟨"RunFormsModel", "greedyThemselves", "(III)I"⟩ ⟨"RunFormsModel", "greedyThemselves", "(III)I"⟩ ∈ jT := jT_sel (q := (⟨"RunFormsModel", "greedyThemselves", "(III)I"⟩, 25)) 19 (by decide +kernel)
theorem ws_20 : Cond.selects "RunFormsModel" ⟨"RunFormsModel", "layThemselves", "(II)V"⟩ ⟨"RunFormsModel", "layThemselves", "(II)V"⟩ ∈ jT := jT_sel (q := (⟨"RunFormsModel", "layThemselves", "(II)V"⟩, 25)) 20 (by decide +kernel)
theorem ws_21 : Cond.selects "RunFormsModel" ⟨"RunFormsModel", "fewest", "(II)V"⟩ ⟨"RunFormsModel", "fewest", "(II)V"⟩ ∈ jT := jT_sel (q := (⟨"RunFormsModel", "fewest", "(II)V"⟩, 25)) 21 (by decide +kernel)
theorem ws_22 : Cond.selects "RunFormsModel" ⟨"RunFormsModel", "reckon", "(II)V"⟩ ⟨"RunFormsModel", "reckon", "(II)V"⟩ ∈ jT := jT_sel (q := (⟨"RunFormsModel", "reckon", "(II)V"⟩, 25)) 22 (by decide +kernel)
theorem ws_23 : Cond.selects "RunFormsModel" ⟨"RunFormsModel", "mayStand", "(II)Z"⟩ ⟨"RunFormsModel", "mayStand", "(II)Z"⟩ ∈ jT := jT_sel (q := (⟨"RunFormsModel", "mayStand", "(II)Z"⟩, 25)) 23 (by decide +kernel)
theorem ws_24 : Cond.selects "RunFormsModel" ⟨"RunFormsModel", "selfCost", "(I)I"⟩ ⟨"RunFormsModel", "selfCost", "(I)I"⟩ ∈ jT := jT_sel (q := (⟨"RunFormsModel", "selfCost", "(I)I"⟩, 25)) 24 (by decide +kernel)
theorem ws_25 : Cond.selects "RunFormsModel" ⟨"RunFormsModel", "runCost", "()I"⟩ ⟨"RunFormsModel", "runCost", "()I"⟩ ∈ jT := jT_sel (q := (⟨"RunFormsModel", "runCost", "()I"⟩, 25)) 25 (by decide +kernel)
theorem ws_26 : Cond.selects "RunFormsModel" ⟨"RunFormsModel", "fewestAt", "(II)I"⟩ ⟨"RunFormsModel", "fewestAt", "(II)I"⟩ ∈ jT := jT_sel (q := (⟨"RunFormsModel", "fewestAt", "(II)I"⟩, 25)) 26 (by decide +kernel)
theorem ws_27 : Cond.selects "RunFormsModel" ⟨"RunFormsModel", "openMarked", "()I"⟩ ⟨"RunFormsModel", "openMarked", "()I"⟩ ∈ jT := jT_sel (q := (⟨"RunFormsModel", "openMarked", "()I"⟩, 25)) 27 (by decide +kernel)
theorem ws_28 : Cond.selects "RunFormsModel" ⟨"RunFormsModel", "fails", "(II)I"⟩ ⟨"RunFormsModel", "fails", "(II)I"⟩ ∈ jT := jT_sel (q := (⟨"RunFormsModel", "fails", "(II)I"⟩, 25)) 28 (by decide +kernel)
theorem ws_29 : Cond.selects "RunFormsModel" ⟨"RunFormsModel", "puts", "(III)I"⟩ ⟨"RunFormsModel", "puts", "(III)I"⟩ ∈ jT := jT_sel (q := (⟨"RunFormsModel", "puts", "(III)I"⟩, 25)) 29 (by decide +kernel)
theorem ws_30 : Cond.selects "RunFormsModel" ⟨"RunFormsModel", "openSigned", "()I"⟩ ⟨"RunFormsModel", "openSigned", "()I"⟩ ∈ jT := jT_sel (q := (⟨"RunFormsModel", "openSigned", "()I"⟩, 25)) 30 (by decide +kernel)
theorem ws_31 : Cond.selects "RunFormsModel" ⟨"RunFormsModel", "openRows", "()I"⟩ ⟨"RunFormsModel", "openRows", "()I"⟩ ∈ jT := jT_sel (q := (⟨"RunFormsModel", "openRows", "()I"⟩, 25)) 31 (by decide +kernel)
theorem ws_32 : Cond.selects "RunFormsModel" ⟨"RunFormsModel", "rowFaults", "(I)I"⟩ ⟨"RunFormsModel", "rowFaults", "(I)I"⟩ ∈ jT := jT_sel (q := (⟨"RunFormsModel", "rowFaults", "(I)I"⟩, 25)) 32 (by decide +kernel)
theorem ws_33 : Cond.selects "RunFormsModel" ⟨"RunFormsModel", "rowIs", "()V"⟩ ⟨"RunFormsModel", "rowIs", "()V"⟩ ∈ jT := jT_sel (q := (⟨"RunFormsModel", "rowIs", "()V"⟩, 25)) 33 (by decide +kernel)
theorem ws_34 : Cond.selects "RunFormsModel" ⟨"RunFormsModel", "endRow", "()I"⟩ ⟨"RunFormsModel", "endRow", "()I"⟩ ∈ jT := jT_sel (q := (⟨"RunFormsModel", "endRow", "()I"⟩, 25)) 34 (by decide +kernel)
theorem ws_35 : Cond.selects "RunFormsModel" ⟨"RunFormsModel", "endAll", "()I"⟩ ⟨"RunFormsModel", "endAll", "()I"⟩ ∈ jT := jT_sel (q := (⟨"RunFormsModel", "endAll", "()I"⟩, 25)) 35 (by decide +kernel)
theorem ws_36 : Cond.selects "RunFormsModel" ⟨"RunFormsModel", "goOn", "()I"⟩ ⟨"RunFormsModel", "goOn", "()I"⟩ ∈ jT := jT_sel (q := (⟨"RunFormsModel", "goOn", "()I"⟩, 25)) 36 (by decide +kernel)
theorem ws_37 : Cond.selects "RunFormsModel" ⟨"RunFormsModel", "bytes", "(I)I"⟩ ⟨"RunFormsModel", "bytes", "(I)I"⟩ ∈ jT := jT_sel (q := (⟨"RunFormsModel", "bytes", "(I)I"⟩, 25)) 37 (by decide +kernel)
theorem ws_38 : Cond.selects "RunFormsModel" ⟨"RunFormsModel", "plainMarked", "()Z"⟩ ⟨"RunFormsModel", "plainMarked", "()Z"⟩ ∈ jT := jT_sel (q := (⟨"RunFormsModel", "plainMarked", "()Z"⟩, 25)) 38 (by decide +kernel)
theorem ws_39 : Cond.selects "RunFormsModel" ⟨"RunFormsModel", "copies", "(III)Z"⟩ ⟨"RunFormsModel", "copies", "(III)Z"⟩ ∈ jT := jT_sel (q := (⟨"RunFormsModel", "copies", "(III)Z"⟩, 25)) 39 (by decide +kernel)
theorem ws_40 : Cond.selects "RunFormsModel" ⟨"RunFormsModel", "plainSigned", "()Z"⟩ ⟨"RunFormsModel", "plainSigned", "()Z"⟩ ∈ jT := jT_sel (q := (⟨"RunFormsModel", "plainSigned", "()Z"⟩, 25)) 40 (by decide +kernel)
theorem ws_41 : Cond.selects "RunFormsModel" ⟨"RunFormsModel", "plainRows", "()Z"⟩ ⟨"RunFormsModel", "plainRows", "()Z"⟩ ∈ jT := jT_sel (q := (⟨"RunFormsModel", "plainRows", "()Z"⟩, 25)) 41 (by decide +kernel)
