theorem w_0 : ((Jvm.Cond.initialized "RunFormsLaw")) ∈ jT := jT_in 0 (by decide +kernel) rfl
theorem w_15 : ((Jvm.Cond.initialized "java/lang/ArrayIndexOutOfBoundsException")) ∈ jT := jT_in 15 (by decide +kernel) rfl
theorem w_17 : ((Jvm.Cond.classLink "RunFormsLaw" (8 : Nat) "RunForms")) ∈ jT := jT_in 17 (by decide +kernel) rfl
theorem w_18 : ((Jvm.Cond.instantiable "RunForms" (6 : Nat))) ∈ jT := jT_in 18 (by decide +kernel) rfl
theorem w_19 : ((Jvm.Cond.methodLink "RunFormsLaw" (21 : Nat) ({ cls := "RunForms", name := "<init>", desc := "(I)V" } : Jvm.MethodName))) ∈ jT := jT_in 19 (by decide +kernel) rfl
theorem w_20 : ((Jvm.Cond.instanceMethod ({ cls := "RunForms", name := "<init>", desc := "(I)V" } : Jvm.MethodName))) ∈ jT := jT_in 20 (by decide +kernel) rfl
theorem w_171 : ((Jvm.Cond.fieldLink "RunForms" (114 : Nat) "RunForms$Plain" "held" "[B")) ∈ jT := jT_in 171 (by decide +kernel) rfl
theorem w_218 : ((Jvm.Cond.methodLink "RunFormsLaw" (27 : Nat) ({ cls := "RunForms", name := "octet", desc := "(I)I" } : Jvm.MethodName))) ∈ jT := jT_in 218 (by decide +kernel) rfl
theorem w_219 : ((Jvm.Cond.instanceMethod ({ cls := "RunForms", name := "octet", desc := "(I)I" } : Jvm.MethodName))) ∈ jT := jT_in 219 (by decide +kernel) rfl
theorem w_220 : ((Jvm.Cond.selects "RunForms" ({ cls := "RunForms", name := "octet", desc := "(I)I" } : Jvm.MethodName) ({ cls := "RunForms", name := "octet", desc := "(I)I" } : Jvm.MethodName))) ∈ jT := jT_in 220 (by decide +kernel) rfl
theorem w_234 : ((Jvm.Cond.methodLink "RunFormsLaw" (31 : Nat) ({ cls := "RunForms", name := "repeat", desc := "(II)I" } : Jvm.MethodName))) ∈ jT := jT_in 234 (by decide +kernel) rfl
theorem w_235 : ((Jvm.Cond.instanceMethod ({ cls := "RunForms", name := "repeat", desc := "(II)I" } : Jvm.MethodName))) ∈ jT := jT_in 235 (by decide +kernel) rfl
theorem w_236 : ((Jvm.Cond.selects "RunForms" ({ cls := "RunForms", name := "repeat", desc := "(II)I" } : Jvm.MethodName) ({ cls := "RunForms", name := "repeat", desc := "(II)I" } : Jvm.MethodName))) ∈ jT := jT_in 236 (by decide +kernel) rfl
theorem w_238 : ((Jvm.Cond.methodLink "RunFormsLaw" (36 : Nat) ({ cls := "RunForms", name := "code", desc := "(I)I" } : Jvm.MethodName))) ∈ jT := jT_in 238 (by decide +kernel) rfl
theorem w_239 : ((Jvm.Cond.instanceMethod ({ cls := "RunForms", name := "code", desc := "(I)I" } : Jvm.MethodName))) ∈ jT := jT_in 239 (by decide +kernel) rfl
theorem w_240 : ((Jvm.Cond.selects "RunForms" ({ cls := "RunForms", name := "code", desc := "(I)I" } : Jvm.MethodName) ({ cls := "RunForms", name := "code", desc := "(I)I" } : Jvm.MethodName))) ∈ jT := jT_in 240 (by decide +kernel) rfl
theorem w_242 : ((Jvm.Cond.methodLink "RunFormsLaw" (40 : Nat) ({ cls := "RunForms", name := "cut", desc := "(II)I" } : Jvm.MethodName))) ∈ jT := jT_in 242 (by decide +kernel) rfl
theorem w_243 : ((Jvm.Cond.instanceMethod ({ cls := "RunForms", name := "cut", desc := "(II)I" } : Jvm.MethodName))) ∈ jT := jT_in 243 (by decide +kernel) rfl
theorem w_244 : ((Jvm.Cond.selects "RunForms" ({ cls := "RunForms", name := "cut", desc := "(II)I" } : Jvm.MethodName) ({ cls := "RunForms", name := "cut", desc := "(II)I" } : Jvm.MethodName))) ∈ jT := jT_in 244 (by decide +kernel) rfl
theorem w_250 : ((Jvm.Cond.methodLink "RunFormsLaw" (44 : Nat) ({ cls := "RunForms", name := "rule", desc := "(II)I" } : Jvm.MethodName))) ∈ jT := jT_in 250 (by decide +kernel) rfl
theorem w_251 : ((Jvm.Cond.instanceMethod ({ cls := "RunForms", name := "rule", desc := "(II)I" } : Jvm.MethodName))) ∈ jT := jT_in 251 (by decide +kernel) rfl
theorem w_252 : ((Jvm.Cond.selects "RunForms" ({ cls := "RunForms", name := "rule", desc := "(II)I" } : Jvm.MethodName) ({ cls := "RunForms", name := "rule", desc := "(II)I" } : Jvm.MethodName))) ∈ jT := jT_in 252 (by decide +kernel) rfl
theorem w_262 : ((Jvm.Cond.methodLink "RunFormsLaw" (48 : Nat) ({ cls := "RunForms", name := "pack", desc := "(I)I" } : Jvm.MethodName))) ∈ jT := jT_in 262 (by decide +kernel) rfl
theorem w_263 : ((Jvm.Cond.instanceMethod ({ cls := "RunForms", name := "pack", desc := "(I)I" } : Jvm.MethodName))) ∈ jT := jT_in 263 (by decide +kernel) rfl
theorem w_264 : ((Jvm.Cond.selects "RunForms" ({ cls := "RunForms", name := "pack", desc := "(I)I" } : Jvm.MethodName) ({ cls := "RunForms", name := "pack", desc := "(I)I" } : Jvm.MethodName))) ∈ jT := jT_in 264 (by decide +kernel) rfl
theorem w_406 : ((Jvm.Cond.methodLink "RunFormsLaw" (52 : Nat) ({ cls := "RunForms", name := "size", desc := "(I)I" } : Jvm.MethodName))) ∈ jT := jT_in 406 (by decide +kernel) rfl
theorem w_407 : ((Jvm.Cond.instanceMethod ({ cls := "RunForms", name := "size", desc := "(I)I" } : Jvm.MethodName))) ∈ jT := jT_in 407 (by decide +kernel) rfl
theorem w_408 : ((Jvm.Cond.selects "RunForms" ({ cls := "RunForms", name := "size", desc := "(I)I" } : Jvm.MethodName) ({ cls := "RunForms", name := "size", desc := "(I)I" } : Jvm.MethodName))) ∈ jT := jT_in 408 (by decide +kernel) rfl
theorem w_410 : ((Jvm.Cond.methodLink "RunFormsLaw" (56 : Nat) ({ cls := "RunForms", name := "open", desc := "()I" } : Jvm.MethodName))) ∈ jT := jT_in 410 (by decide +kernel) rfl
theorem w_411 : ((Jvm.Cond.instanceMethod ({ cls := "RunForms", name := "open", desc := "()I" } : Jvm.MethodName))) ∈ jT := jT_in 411 (by decide +kernel) rfl
theorem w_412 : ((Jvm.Cond.selects "RunForms" ({ cls := "RunForms", name := "open", desc := "()I" } : Jvm.MethodName) ({ cls := "RunForms", name := "open", desc := "()I" } : Jvm.MethodName))) ∈ jT := jT_in 412 (by decide +kernel) rfl
theorem w_491 : ((Jvm.Cond.methodLink "RunFormsLaw" (61 : Nat) ({ cls := "RunForms", name := "fault", desc := "()I" } : Jvm.MethodName))) ∈ jT := jT_in 491 (by decide +kernel) rfl
theorem w_492 : ((Jvm.Cond.instanceMethod ({ cls := "RunForms", name := "fault", desc := "()I" } : Jvm.MethodName))) ∈ jT := jT_in 492 (by decide +kernel) rfl
theorem w_493 : ((Jvm.Cond.selects "RunForms" ({ cls := "RunForms", name := "fault", desc := "()I" } : Jvm.MethodName) ({ cls := "RunForms", name := "fault", desc := "()I" } : Jvm.MethodName))) ∈ jT := jT_in 493 (by decide +kernel) rfl
theorem w_495 : ((Jvm.Cond.methodLink "RunFormsLaw" (65 : Nat) ({ cls := "RunForms", name := "plain", desc := "(I)I" } : Jvm.MethodName))) ∈ jT := jT_in 495 (by decide +kernel) rfl
theorem w_496 : ((Jvm.Cond.instanceMethod ({ cls := "RunForms", name := "plain", desc := "(I)I" } : Jvm.MethodName))) ∈ jT := jT_in 496 (by decide +kernel) rfl
theorem w_497 : ((Jvm.Cond.selects "RunForms" ({ cls := "RunForms", name := "plain", desc := "(I)I" } : Jvm.MethodName) ({ cls := "RunForms", name := "plain", desc := "(I)I" } : Jvm.MethodName))) ∈ jT := jT_in 497 (by decide +kernel) rfl
theorem w_536 : ((Jvm.Cond.methodLink "RunFormsLaw" (76 : Nat) ({ cls := "RunForms", name := "at", desc := "(II)I" } : Jvm.MethodName))) ∈ jT := jT_in 536 (by decide +kernel) rfl
theorem w_537 : ((Jvm.Cond.instanceMethod ({ cls := "RunForms", name := "at", desc := "(II)I" } : Jvm.MethodName))) ∈ jT := jT_in 537 (by decide +kernel) rfl
theorem w_538 : ((Jvm.Cond.selects "RunForms" ({ cls := "RunForms", name := "at", desc := "(II)I" } : Jvm.MethodName) ({ cls := "RunForms", name := "at", desc := "(II)I" } : Jvm.MethodName))) ∈ jT := jT_in 538 (by decide +kernel) rfl
theorem w_541 : ((Jvm.Cond.methodLink "RunFormsLaw" (80 : Nat) ({ cls := "RunForms", name := "unit", desc := "(I)J" } : Jvm.MethodName))) ∈ jT := jT_in 541 (by decide +kernel) rfl
theorem w_542 : ((Jvm.Cond.instanceMethod ({ cls := "RunForms", name := "unit", desc := "(I)J" } : Jvm.MethodName))) ∈ jT := jT_in 542 (by decide +kernel) rfl
theorem w_543 : ((Jvm.Cond.selects "RunForms" ({ cls := "RunForms", name := "unit", desc := "(I)J" } : Jvm.MethodName) ({ cls := "RunForms", name := "unit", desc := "(I)J" } : Jvm.MethodName))) ∈ jT := jT_in 543 (by decide +kernel) rfl
theorem w_549 : ((Jvm.Cond.methodLink "RunFormsLaw" (85 : Nat) ({ cls := "RunForms", name := "bound", desc := "(I)I" } : Jvm.MethodName))) ∈ jT := jT_in 549 (by decide +kernel) rfl
theorem w_550 : ((Jvm.Cond.instanceMethod ({ cls := "RunForms", name := "bound", desc := "(I)I" } : Jvm.MethodName))) ∈ jT := jT_in 550 (by decide +kernel) rfl
theorem w_551 : ((Jvm.Cond.selects "RunForms" ({ cls := "RunForms", name := "bound", desc := "(I)I" } : Jvm.MethodName) ({ cls := "RunForms", name := "bound", desc := "(I)I" } : Jvm.MethodName))) ∈ jT := jT_in 551 (by decide +kernel) rfl
theorem w_562 : ((Jvm.Cond.methodLink "RunFormsLaw" (89 : Nat) ({ cls := "RunForms", name := "told", desc := "(I)I" } : Jvm.MethodName))) ∈ jT := jT_in 562 (by decide +kernel) rfl
theorem w_563 : ((Jvm.Cond.instanceMethod ({ cls := "RunForms", name := "told", desc := "(I)I" } : Jvm.MethodName))) ∈ jT := jT_in 563 (by decide +kernel) rfl
theorem w_564 : ((Jvm.Cond.selects "RunForms" ({ cls := "RunForms", name := "told", desc := "(I)I" } : Jvm.MethodName) ({ cls := "RunForms", name := "told", desc := "(I)I" } : Jvm.MethodName))) ∈ jT := jT_in 564 (by decide +kernel) rfl
theorem w_566 : ((Jvm.Cond.methodLink "RunFormsLaw" (15 : Nat) ({ cls := "RunFormsLaw", name := "cell", desc := "([II)I" } : Jvm.MethodName))) ∈ jT := jT_in 566 (by decide +kernel) rfl
theorem w_567 : ((Jvm.Cond.static ({ cls := "RunFormsLaw", name := "cell", desc := "([II)I" } : Jvm.MethodName))) ∈ jT := jT_in 567 (by decide +kernel) rfl
theorem w_568 : ((Jvm.Cond.code ({ cls := "RunFormsLaw", name := "cell", desc := "([II)I" } : Jvm.MethodName) method_2_code (2 : Nat) (Option.some Jvm.ClassFile.FieldType.int))) ∈ jT := jT_in 568 (by decide +kernel) rfl
theorem w_569 : ((Jvm.Cond.methodLink "RunFormsLaw" (69 : Nat) ({ cls := "RunFormsLaw", name := "out", desc := "(LRunForms;I[J)I" } : Jvm.MethodName))) ∈ jT := jT_in 569 (by decide +kernel) rfl
theorem w_570 : ((Jvm.Cond.static ({ cls := "RunFormsLaw", name := "out", desc := "(LRunForms;I[J)I" } : Jvm.MethodName))) ∈ jT := jT_in 570 (by decide +kernel) rfl
theorem w_571 : ((Jvm.Cond.codeWith ({ cls := "RunFormsLaw", name := "out", desc := "(LRunForms;I[J)I" } : Jvm.MethodName) method_3_code (4 : Nat) (Option.some Jvm.ClassFile.FieldType.int) [((0 : Nat), (9 : Nat), (12 : Nat), (13 : Nat))])) ∈ jT := jT_in 571 (by decide +kernel) rfl
theorem w_572 : ((Jvm.Cond.classLink "RunFormsLaw" (13 : Nat) "java/lang/ArrayIndexOutOfBoundsException")) ∈ jT := jT_in 572 (by decide +kernel) rfl
theorem w_573 : ((Jvm.Cond.instantiable "java/lang/ArrayIndexOutOfBoundsException" (6 : Nat))) ∈ jT := jT_in 573 (by decide +kernel) rfl
theorem w_601 : ((Jvm.Cond.instantiable "java/lang/Throwable" (6 : Nat))) ∈ jT := jT_in 601 (by decide +kernel) rfl
theorem w_640 : ((Jvm.Cond.instantiable "java/lang/String" (4 : Nat))) ∈ jT := jT_in 640 (by decide +kernel) rfl
theorem w_645 : ((Jvm.Cond.methodLink "RunFormsLaw" (7 : Nat) ({ cls := "RunForms", name := "out", desc := "(I)I" } : Jvm.MethodName))) ∈ jT := jT_in 645 (by decide +kernel) rfl
theorem w_646 : ((Jvm.Cond.instanceMethod ({ cls := "RunForms", name := "out", desc := "(I)I" } : Jvm.MethodName))) ∈ jT := jT_in 646 (by decide +kernel) rfl
theorem w_647 : ((Jvm.Cond.selects "RunForms" ({ cls := "RunForms", name := "out", desc := "(I)I" } : Jvm.MethodName) ({ cls := "RunForms", name := "out", desc := "(I)I" } : Jvm.MethodName))) ∈ jT := jT_in 647 (by decide +kernel) rfl
theorem w_648 : ((Jvm.Cond.code ({ cls := "RunForms", name := "out", desc := "(I)I" } : Jvm.MethodName) prog_1_method_12_code (2 : Nat) (Option.some Jvm.ClassFile.FieldType.int))) ∈ jT := jT_in 648 (by decide +kernel) rfl
theorem w_649 : ((Jvm.Cond.classLink "RunForms" (107 : Nat) "java/lang/ArrayIndexOutOfBoundsException")) ∈ jT := jT_in 649 (by decide +kernel) rfl
theorem w_652 : ((Jvm.Cond.classLink "RunFormsLaw" (24 : Nat) "RunFormsModel")) ∈ jT := jT_in 652 (by decide +kernel) rfl
theorem w_653 : ((Jvm.Cond.instantiable "RunFormsModel" (25 : Nat))) ∈ jT := jT_in 653 (by decide +kernel) rfl
theorem w_654 : ((Jvm.Cond.methodLink "RunFormsLaw" (26 : Nat) ({ cls := "RunFormsModel", name := "<init>", desc := "(I)V" } : Jvm.MethodName))) ∈ jT := jT_in 654 (by decide +kernel) rfl
theorem w_655 : ((Jvm.Cond.instanceMethod ({ cls := "RunFormsModel", name := "<init>", desc := "(I)V" } : Jvm.MethodName))) ∈ jT := jT_in 655 (by decide +kernel) rfl
theorem w_738 : ((Jvm.Cond.methodLink "RunFormsLaw" (73 : Nat) ({ cls := "RunFormsModel", name := "thrown", desc := "()I" } : Jvm.MethodName))) ∈ jT := jT_in 738 (by decide +kernel) rfl
theorem w_739 : ((Jvm.Cond.instanceMethod ({ cls := "RunFormsModel", name := "thrown", desc := "()I" } : Jvm.MethodName))) ∈ jT := jT_in 739 (by decide +kernel) rfl
theorem w_740 : ((Jvm.Cond.selects "RunFormsModel" ({ cls := "RunFormsModel", name := "thrown", desc := "()I" } : Jvm.MethodName) ({ cls := "RunFormsModel", name := "thrown", desc := "()I" } : Jvm.MethodName))) ∈ jT := jT_in 740 (by decide +kernel) rfl
theorem w_742 : ((Jvm.Cond.methodLink "RunFormsLaw" (30 : Nat) ({ cls := "RunFormsModel", name := "octet", desc := "(I)I" } : Jvm.MethodName))) ∈ jT := jT_in 742 (by decide +kernel) rfl
theorem w_743 : ((Jvm.Cond.instanceMethod ({ cls := "RunFormsModel", name := "octet", desc := "(I)I" } : Jvm.MethodName))) ∈ jT := jT_in 743 (by decide +kernel) rfl
theorem w_744 : ((Jvm.Cond.selects "RunFormsModel" ({ cls := "RunFormsModel", name := "octet", desc := "(I)I" } : Jvm.MethodName) ({ cls := "RunFormsModel", name := "octet", desc := "(I)I" } : Jvm.MethodName))) ∈ jT := jT_in 744 (by decide +kernel) rfl
theorem w_746 : ((Jvm.Cond.methodLink "RunFormsLaw" (35 : Nat) ({ cls := "RunFormsModel", name := "repeat", desc := "(II)I" } : Jvm.MethodName))) ∈ jT := jT_in 746 (by decide +kernel) rfl
theorem w_747 : ((Jvm.Cond.instanceMethod ({ cls := "RunFormsModel", name := "repeat", desc := "(II)I" } : Jvm.MethodName))) ∈ jT := jT_in 747 (by decide +kernel) rfl
theorem w_748 : ((Jvm.Cond.selects "RunFormsModel" ({ cls := "RunFormsModel", name := "repeat", desc := "(II)I" } : Jvm.MethodName) ({ cls := "RunFormsModel", name := "repeat", desc := "(II)I" } : Jvm.MethodName))) ∈ jT := jT_in 748 (by decide +kernel) rfl
theorem w_750 : ((Jvm.Cond.methodLink "RunFormsLaw" (39 : Nat) ({ cls := "RunFormsModel", name := "code", desc := "(I)I" } : Jvm.MethodName))) ∈ jT := jT_in 750 (by decide +kernel) rfl
theorem w_751 : ((Jvm.Cond.instanceMethod ({ cls := "RunFormsModel", name := "code", desc := "(I)I" } : Jvm.MethodName))) ∈ jT := jT_in 751 (by decide +kernel) rfl
theorem w_752 : ((Jvm.Cond.selects "RunFormsModel" ({ cls := "RunFormsModel", name := "code", desc := "(I)I" } : Jvm.MethodName) ({ cls := "RunFormsModel", name := "code", desc := "(I)I" } : Jvm.MethodName))) ∈ jT := jT_in 752 (by decide +kernel) rfl
theorem w_754 : ((Jvm.Cond.methodLink "RunFormsLaw" (43 : Nat) ({ cls := "RunFormsModel", name := "cut", desc := "(II)I" } : Jvm.MethodName))) ∈ jT := jT_in 754 (by decide +kernel) rfl
theorem w_755 : ((Jvm.Cond.instanceMethod ({ cls := "RunFormsModel", name := "cut", desc := "(II)I" } : Jvm.MethodName))) ∈ jT := jT_in 755 (by decide +kernel) rfl
theorem w_756 : ((Jvm.Cond.selects "RunFormsModel" ({ cls := "RunFormsModel", name := "cut", desc := "(II)I" } : Jvm.MethodName) ({ cls := "RunFormsModel", name := "cut", desc := "(II)I" } : Jvm.MethodName))) ∈ jT := jT_in 756 (by decide +kernel) rfl
theorem w_758 : ((Jvm.Cond.methodLink "RunFormsLaw" (47 : Nat) ({ cls := "RunFormsModel", name := "rule", desc := "(II)I" } : Jvm.MethodName))) ∈ jT := jT_in 758 (by decide +kernel) rfl
theorem w_759 : ((Jvm.Cond.instanceMethod ({ cls := "RunFormsModel", name := "rule", desc := "(II)I" } : Jvm.MethodName))) ∈ jT := jT_in 759 (by decide +kernel) rfl
theorem w_760 : ((Jvm.Cond.selects "RunFormsModel" ({ cls := "RunFormsModel", name := "rule", desc := "(II)I" } : Jvm.MethodName) ({ cls := "RunFormsModel", name := "rule", desc := "(II)I" } : Jvm.MethodName))) ∈ jT := jT_in 760 (by decide +kernel) rfl
theorem w_762 : ((Jvm.Cond.methodLink "RunFormsLaw" (51 : Nat) ({ cls := "RunFormsModel", name := "pack", desc := "(I)I" } : Jvm.MethodName))) ∈ jT := jT_in 762 (by decide +kernel) rfl
theorem w_763 : ((Jvm.Cond.instanceMethod ({ cls := "RunFormsModel", name := "pack", desc := "(I)I" } : Jvm.MethodName))) ∈ jT := jT_in 763 (by decide +kernel) rfl
theorem w_764 : ((Jvm.Cond.selects "RunFormsModel" ({ cls := "RunFormsModel", name := "pack", desc := "(I)I" } : Jvm.MethodName) ({ cls := "RunFormsModel", name := "pack", desc := "(I)I" } : Jvm.MethodName))) ∈ jT := jT_in 764 (by decide +kernel) rfl
theorem w_859 : ((Jvm.Cond.methodLink "RunFormsLaw" (55 : Nat) ({ cls := "RunFormsModel", name := "size", desc := "(I)I" } : Jvm.MethodName))) ∈ jT := jT_in 859 (by decide +kernel) rfl
theorem w_860 : ((Jvm.Cond.methodLink "RunFormsLaw" (60 : Nat) ({ cls := "RunFormsModel", name := "open", desc := "()I" } : Jvm.MethodName))) ∈ jT := jT_in 860 (by decide +kernel) rfl
theorem w_861 : ((Jvm.Cond.instanceMethod ({ cls := "RunFormsModel", name := "open", desc := "()I" } : Jvm.MethodName))) ∈ jT := jT_in 861 (by decide +kernel) rfl
theorem w_862 : ((Jvm.Cond.selects "RunFormsModel" ({ cls := "RunFormsModel", name := "open", desc := "()I" } : Jvm.MethodName) ({ cls := "RunFormsModel", name := "open", desc := "()I" } : Jvm.MethodName))) ∈ jT := jT_in 862 (by decide +kernel) rfl
theorem w_909 : ((Jvm.Cond.methodLink "RunFormsLaw" (64 : Nat) ({ cls := "RunFormsModel", name := "fault", desc := "()I" } : Jvm.MethodName))) ∈ jT := jT_in 909 (by decide +kernel) rfl
theorem w_910 : ((Jvm.Cond.instanceMethod ({ cls := "RunFormsModel", name := "fault", desc := "()I" } : Jvm.MethodName))) ∈ jT := jT_in 910 (by decide +kernel) rfl
theorem w_911 : ((Jvm.Cond.selects "RunFormsModel" ({ cls := "RunFormsModel", name := "fault", desc := "()I" } : Jvm.MethodName) ({ cls := "RunFormsModel", name := "fault", desc := "()I" } : Jvm.MethodName))) ∈ jT := jT_in 911 (by decide +kernel) rfl
theorem w_913 : ((Jvm.Cond.methodLink "RunFormsLaw" (68 : Nat) ({ cls := "RunFormsModel", name := "plain", desc := "(I)I" } : Jvm.MethodName))) ∈ jT := jT_in 913 (by decide +kernel) rfl
theorem w_914 : ((Jvm.Cond.instanceMethod ({ cls := "RunFormsModel", name := "plain", desc := "(I)I" } : Jvm.MethodName))) ∈ jT := jT_in 914 (by decide +kernel) rfl
theorem w_915 : ((Jvm.Cond.selects "RunFormsModel" ({ cls := "RunFormsModel", name := "plain", desc := "(I)I" } : Jvm.MethodName) ({ cls := "RunFormsModel", name := "plain", desc := "(I)I" } : Jvm.MethodName))) ∈ jT := jT_in 915 (by decide +kernel) rfl
theorem w_933 : ((Jvm.Cond.methodLink "RunFormsLaw" (72 : Nat) ({ cls := "RunFormsModel", name := "out", desc := "(I)I" } : Jvm.MethodName))) ∈ jT := jT_in 933 (by decide +kernel) rfl
theorem w_934 : ((Jvm.Cond.instanceMethod ({ cls := "RunFormsModel", name := "out", desc := "(I)I" } : Jvm.MethodName))) ∈ jT := jT_in 934 (by decide +kernel) rfl
theorem w_935 : ((Jvm.Cond.selects "RunFormsModel" ({ cls := "RunFormsModel", name := "out", desc := "(I)I" } : Jvm.MethodName) ({ cls := "RunFormsModel", name := "out", desc := "(I)I" } : Jvm.MethodName))) ∈ jT := jT_in 935 (by decide +kernel) rfl
theorem w_937 : ((Jvm.Cond.methodLink "RunFormsLaw" (79 : Nat) ({ cls := "RunFormsModel", name := "at", desc := "(II)I" } : Jvm.MethodName))) ∈ jT := jT_in 937 (by decide +kernel) rfl
theorem w_938 : ((Jvm.Cond.instanceMethod ({ cls := "RunFormsModel", name := "at", desc := "(II)I" } : Jvm.MethodName))) ∈ jT := jT_in 938 (by decide +kernel) rfl
theorem w_939 : ((Jvm.Cond.selects "RunFormsModel" ({ cls := "RunFormsModel", name := "at", desc := "(II)I" } : Jvm.MethodName) ({ cls := "RunFormsModel", name := "at", desc := "(II)I" } : Jvm.MethodName))) ∈ jT := jT_in 939 (by decide +kernel) rfl
theorem w_941 : ((Jvm.Cond.methodLink "RunFormsLaw" (84 : Nat) ({ cls := "RunFormsModel", name := "unit", desc := "(I)J" } : Jvm.MethodName))) ∈ jT := jT_in 941 (by decide +kernel) rfl
theorem w_942 : ((Jvm.Cond.instanceMethod ({ cls := "RunFormsModel", name := "unit", desc := "(I)J" } : Jvm.MethodName))) ∈ jT := jT_in 942 (by decide +kernel) rfl
theorem w_943 : ((Jvm.Cond.selects "RunFormsModel" ({ cls := "RunFormsModel", name := "unit", desc := "(I)J" } : Jvm.MethodName) ({ cls := "RunFormsModel", name := "unit", desc := "(I)J" } : Jvm.MethodName))) ∈ jT := jT_in 943 (by decide +kernel) rfl
theorem w_946 : ((Jvm.Cond.methodLink "RunFormsLaw" (88 : Nat) ({ cls := "RunFormsModel", name := "bound", desc := "(I)I" } : Jvm.MethodName))) ∈ jT := jT_in 946 (by decide +kernel) rfl
theorem w_947 : ((Jvm.Cond.instanceMethod ({ cls := "RunFormsModel", name := "bound", desc := "(I)I" } : Jvm.MethodName))) ∈ jT := jT_in 947 (by decide +kernel) rfl
theorem w_948 : ((Jvm.Cond.selects "RunFormsModel" ({ cls := "RunFormsModel", name := "bound", desc := "(I)I" } : Jvm.MethodName) ({ cls := "RunFormsModel", name := "bound", desc := "(I)I" } : Jvm.MethodName))) ∈ jT := jT_in 948 (by decide +kernel) rfl
theorem w_950 : ((Jvm.Cond.methodLink "RunFormsLaw" (92 : Nat) ({ cls := "RunFormsModel", name := "told", desc := "(I)I" } : Jvm.MethodName))) ∈ jT := jT_in 950 (by decide +kernel) rfl
theorem w_951 : ((Jvm.Cond.instanceMethod ({ cls := "RunFormsModel", name := "told", desc := "(I)I" } : Jvm.MethodName))) ∈ jT := jT_in 951 (by decide +kernel) rfl
theorem w_952 : ((Jvm.Cond.selects "RunFormsModel" ({ cls := "RunFormsModel", name := "told", desc := "(I)I" } : Jvm.MethodName) ({ cls := "RunFormsModel", name := "told", desc := "(I)I" } : Jvm.MethodName))) ∈ jT := jT_in 952 (by decide +kernel) rfl
